/-! ## class Reckoning; Pairs; Arrays.fill, bitCount -/
section
variable {l : Launch} {D : Dt_} {v σ r : Mm_} {post : Option Av_ → Mm_ → Prop}
theorem lp_J7_fill_53178_31 {x : Int} (hx : Rg_ x) (h : post none (wr_ σ 31 (fun _ => x) 6)) : ∀ i : Nat, i ≤ 6 → V_ l D mJ7_fill_53178 (CM_ D mJ7_fill_53178 post) 5 [some (vr_ 31), some (vi_ x), some (vi_ (i : Int)), some (vi_ 6)] [] (wr_ σ 31 (fun _ => x) i) := by
  refine up_ _ (fun i hi ih => ?_)
  refine V_iload_n (pc := 5) dJ7_fill_53178_5 rfl rfl ?_
  refine V_iload_n (pc := 6) dJ7_fill_53178_6 rfl rfl ?_
  refine V_icmp_ge (tgt := 20) (pc := 7) dJ7_fill_53178_7 (by decide) (by first | assumption | decide | omega | exact ba_rg hR | exact b2_rg) (by first | assumption | decide | omega | exact ba_rg hR | exact b2_rg) (fun h7 => ?_) (fun h7 => ?_)
  · skip
    refine V_return (pc := 20) dJ7_fill_53178_20 rfl (fun hR => ?_)
    rw [show i = 6 by omega]; exact h
  · skip
    refine V_aload_n (pc := 10) dJ7_fill_53178_10 rfl rfl ?_
    refine V_iload_n (pc := 11) dJ7_fill_53178_11 rfl rfl ?_
    refine V_iload_n (pc := 12) dJ7_fill_53178_12 rfl rfl ?_
    refine V_iastN (pc := 13) dJ7_fill_53178_13 gg_31 (by omega) (by decide) (by first | assumption | decide | omega | exact ba_rg hR | exact b2_rg) ?_
    refine V_iinc (pc := 14) dJ7_fill_53178_14 rfl (by decide) rfl ?_
    show V_ _ _ _ _ _ [_, _, _, _] _ _
    refine V_goto (tgt := 5) (pc := 17) dJ7_fill_53178_17 (by decide) ?_
    exact V_cg (ih (by omega)) (by simp) rfl (by rw [wr_s rfl])
theorem ct_J7_fill_53178_31 {x : Int} (hx : Rg_ x) (h : post none (wr_ σ 31 (fun _ => x) 6)) : V_ l D mJ7_fill_53178 (CM_ D mJ7_fill_53178 post) 0 [some (vr_ 31), some (vi_ x), none, none] [] σ := by
  refine V_iconst (pc := 0) dJ7_fill_53178_0 ?_
  refine V_istore_n (pc := 1) dJ7_fill_53178_1 rfl (by decide) rfl ?_
  show V_ _ _ _ _ _ [_, _, _, _] _ _
  refine V_aload_n (pc := 2) dJ7_fill_53178_2 rfl rfl ?_
  refine V_alen (pc := 3) dJ7_fill_53178_3 gg_31 ?_
  refine V_istore_n (pc := 4) dJ7_fill_53178_4 rfl (by decide) rfl ?_
  show V_ _ _ _ _ _ [_, _, _, _] _ _
  exact V_cg (lp_J7_fill_53178_31 hx h 0 (Nat.zero_le _)) (by simp) rfl (by rw [wr_0])
theorem lp_J7_fill_53178_37 {x : Int} (hx : Rg_ x) (h : post none (wr_ σ 37 (fun _ => x) 100)) : ∀ i : Nat, i ≤ 100 → V_ l D mJ7_fill_53178 (CM_ D mJ7_fill_53178 post) 5 [some (vr_ 37), some (vi_ x), some (vi_ (i : Int)), some (vi_ 100)] [] (wr_ σ 37 (fun _ => x) i) := by
  refine up_ _ (fun i hi ih => ?_)
  refine V_iload_n (pc := 5) dJ7_fill_53178_5 rfl rfl ?_
  refine V_iload_n (pc := 6) dJ7_fill_53178_6 rfl rfl ?_
  refine V_icmp_ge (tgt := 20) (pc := 7) dJ7_fill_53178_7 (by decide) (by first | assumption | decide | omega | exact ba_rg hR | exact b2_rg) (by first | assumption | decide | omega | exact ba_rg hR | exact b2_rg) (fun h7 => ?_) (fun h7 => ?_)
  · skip
    refine V_return (pc := 20) dJ7_fill_53178_20 rfl (fun hR => ?_)
    rw [show i = 100 by omega]; exact h
  · skip
    refine V_aload_n (pc := 10) dJ7_fill_53178_10 rfl rfl ?_
    refine V_iload_n (pc := 11) dJ7_fill_53178_11 rfl rfl ?_
    refine V_iload_n (pc := 12) dJ7_fill_53178_12 rfl rfl ?_
    refine V_iastN (pc := 13) dJ7_fill_53178_13 gg_37 (by omega) (by decide) (by first | assumption | decide | omega | exact ba_rg hR | exact b2_rg) ?_
    refine V_iinc (pc := 14) dJ7_fill_53178_14 rfl (by decide) rfl ?_
    show V_ _ _ _ _ _ [_, _, _, _] _ _
    refine V_goto (tgt := 5) (pc := 17) dJ7_fill_53178_17 (by decide) ?_
    exact V_cg (ih (by omega)) (by simp) rfl (by rw [wr_s rfl])
theorem ct_J7_fill_53178_37 {x : Int} (hx : Rg_ x) (h : post none (wr_ σ 37 (fun _ => x) 100)) : V_ l D mJ7_fill_53178 (CM_ D mJ7_fill_53178 post) 0 [some (vr_ 37), some (vi_ x), none, none] [] σ := by
  refine V_iconst (pc := 0) dJ7_fill_53178_0 ?_
  refine V_istore_n (pc := 1) dJ7_fill_53178_1 rfl (by decide) rfl ?_
  show V_ _ _ _ _ _ [_, _, _, _] _ _
  refine V_aload_n (pc := 2) dJ7_fill_53178_2 rfl rfl ?_
  refine V_alen (pc := 3) dJ7_fill_53178_3 gg_37 ?_
  refine V_istore_n (pc := 4) dJ7_fill_53178_4 rfl (by decide) rfl ?_
  show V_ _ _ _ _ _ [_, _, _, _] _ _
  exact V_cg (lp_J7_fill_53178_37 hx h 0 (Nat.zero_le _)) (by simp) rfl (by rw [wr_0])
theorem lp_J7_fill_53178_12 {x : Int} (hx : Rg_ x) (h : post none (wr_ σ 12 (fun _ => x) 60)) : ∀ i : Nat, i ≤ 60 → V_ l D mJ7_fill_53178 (CM_ D mJ7_fill_53178 post) 5 [some (vr_ 12), some (vi_ x), some (vi_ (i : Int)), some (vi_ 60)] [] (wr_ σ 12 (fun _ => x) i) := by
  refine up_ _ (fun i hi ih => ?_)
  refine V_iload_n (pc := 5) dJ7_fill_53178_5 rfl rfl ?_
  refine V_iload_n (pc := 6) dJ7_fill_53178_6 rfl rfl ?_
  refine V_icmp_ge (tgt := 20) (pc := 7) dJ7_fill_53178_7 (by decide) (by first | assumption | decide | omega | exact ba_rg hR | exact b2_rg) (by first | assumption | decide | omega | exact ba_rg hR | exact b2_rg) (fun h7 => ?_) (fun h7 => ?_)
  · skip
    refine V_return (pc := 20) dJ7_fill_53178_20 rfl (fun hR => ?_)
    rw [show i = 60 by omega]; exact h
  · skip
    refine V_aload_n (pc := 10) dJ7_fill_53178_10 rfl rfl ?_
    refine V_iload_n (pc := 11) dJ7_fill_53178_11 rfl rfl ?_
    refine V_iload_n (pc := 12) dJ7_fill_53178_12 rfl rfl ?_
    refine V_iastN (pc := 13) dJ7_fill_53178_13 gg_12 (by omega) (by decide) (by first | assumption | decide | omega | exact ba_rg hR | exact b2_rg) ?_
    refine V_iinc (pc := 14) dJ7_fill_53178_14 rfl (by decide) rfl ?_
    show V_ _ _ _ _ _ [_, _, _, _] _ _
    refine V_goto (tgt := 5) (pc := 17) dJ7_fill_53178_17 (by decide) ?_
    exact V_cg (ih (by omega)) (by simp) rfl (by rw [wr_s rfl])
theorem ct_J7_fill_53178_12 {x : Int} (hx : Rg_ x) (h : post none (wr_ σ 12 (fun _ => x) 60)) : V_ l D mJ7_fill_53178 (CM_ D mJ7_fill_53178 post) 0 [some (vr_ 12), some (vi_ x), none, none] [] σ := by
  refine V_iconst (pc := 0) dJ7_fill_53178_0 ?_
  refine V_istore_n (pc := 1) dJ7_fill_53178_1 rfl (by decide) rfl ?_
  show V_ _ _ _ _ _ [_, _, _, _] _ _
  refine V_aload_n (pc := 2) dJ7_fill_53178_2 rfl rfl ?_
  refine V_alen (pc := 3) dJ7_fill_53178_3 gg_12 ?_
  refine V_istore_n (pc := 4) dJ7_fill_53178_4 rfl (by decide) rfl ?_
  show V_ _ _ _ _ _ [_, _, _, _] _ _
  exact V_cg (lp_J7_fill_53178_12 hx h 0 (Nat.zero_le _)) (by simp) rfl (by rw [wr_0])
theorem lp_J7_fill_53178_14 {x : Int} (hx : Rg_ x) (h : post none (wr_ σ 14 (fun _ => x) 60)) : ∀ i : Nat, i ≤ 60 → V_ l D mJ7_fill_53178 (CM_ D mJ7_fill_53178 post) 5 [some (vr_ 14), some (vi_ x), some (vi_ (i : Int)), some (vi_ 60)] [] (wr_ σ 14 (fun _ => x) i) := by
  refine up_ _ (fun i hi ih => ?_)
  refine V_iload_n (pc := 5) dJ7_fill_53178_5 rfl rfl ?_
  refine V_iload_n (pc := 6) dJ7_fill_53178_6 rfl rfl ?_
  refine V_icmp_ge (tgt := 20) (pc := 7) dJ7_fill_53178_7 (by decide) (by first | assumption | decide | omega | exact ba_rg hR | exact b2_rg) (by first | assumption | decide | omega | exact ba_rg hR | exact b2_rg) (fun h7 => ?_) (fun h7 => ?_)
  · skip
    refine V_return (pc := 20) dJ7_fill_53178_20 rfl (fun hR => ?_)
    rw [show i = 60 by omega]; exact h
  · skip
    refine V_aload_n (pc := 10) dJ7_fill_53178_10 rfl rfl ?_
    refine V_iload_n (pc := 11) dJ7_fill_53178_11 rfl rfl ?_
    refine V_iload_n (pc := 12) dJ7_fill_53178_12 rfl rfl ?_
    refine V_iastN (pc := 13) dJ7_fill_53178_13 gg_14 (by omega) (by decide) (by first | assumption | decide | omega | exact ba_rg hR | exact b2_rg) ?_
    refine V_iinc (pc := 14) dJ7_fill_53178_14 rfl (by decide) rfl ?_
    show V_ _ _ _ _ _ [_, _, _, _] _ _
    refine V_goto (tgt := 5) (pc := 17) dJ7_fill_53178_17 (by decide) ?_
    exact V_cg (ih (by omega)) (by simp) rfl (by rw [wr_s rfl])
theorem ct_J7_fill_53178_14 {x : Int} (hx : Rg_ x) (h : post none (wr_ σ 14 (fun _ => x) 60)) : V_ l D mJ7_fill_53178 (CM_ D mJ7_fill_53178 post) 0 [some (vr_ 14), some (vi_ x), none, none] [] σ := by
  refine V_iconst (pc := 0) dJ7_fill_53178_0 ?_
  refine V_istore_n (pc := 1) dJ7_fill_53178_1 rfl (by decide) rfl ?_
  show V_ _ _ _ _ _ [_, _, _, _] _ _
  refine V_aload_n (pc := 2) dJ7_fill_53178_2 rfl rfl ?_
  refine V_alen (pc := 3) dJ7_fill_53178_3 gg_14 ?_
  refine V_istore_n (pc := 4) dJ7_fill_53178_4 rfl (by decide) rfl ?_
  show V_ _ _ _ _ _ [_, _, _, _] _ _
  exact V_cg (lp_J7_fill_53178_14 hx h 0 (Nat.zero_le _)) (by simp) rfl (by rw [wr_0])
theorem lp_J7_fill_53178_16 {x : Int} (hx : Rg_ x) (h : post none (wr_ σ 16 (fun _ => x) 60)) : ∀ i : Nat, i ≤ 60 → V_ l D mJ7_fill_53178 (CM_ D mJ7_fill_53178 post) 5 [some (vr_ 16), some (vi_ x), some (vi_ (i : Int)), some (vi_ 60)] [] (wr_ σ 16 (fun _ => x) i) := by
  refine up_ _ (fun i hi ih => ?_)
  refine V_iload_n (pc := 5) dJ7_fill_53178_5 rfl rfl ?_
  refine V_iload_n (pc := 6) dJ7_fill_53178_6 rfl rfl ?_
  refine V_icmp_ge (tgt := 20) (pc := 7) dJ7_fill_53178_7 (by decide) (by first | assumption | decide | omega | exact ba_rg hR | exact b2_rg) (by first | assumption | decide | omega | exact ba_rg hR | exact b2_rg) (fun h7 => ?_) (fun h7 => ?_)
  · skip
    refine V_return (pc := 20) dJ7_fill_53178_20 rfl (fun hR => ?_)
    rw [show i = 60 by omega]; exact h
  · skip
    refine V_aload_n (pc := 10) dJ7_fill_53178_10 rfl rfl ?_
    refine V_iload_n (pc := 11) dJ7_fill_53178_11 rfl rfl ?_
    refine V_iload_n (pc := 12) dJ7_fill_53178_12 rfl rfl ?_
    refine V_iastN (pc := 13) dJ7_fill_53178_13 gg_16 (by omega) (by decide) (by first | assumption | decide | omega | exact ba_rg hR | exact b2_rg) ?_
    refine V_iinc (pc := 14) dJ7_fill_53178_14 rfl (by decide) rfl ?_
    show V_ _ _ _ _ _ [_, _, _, _] _ _
    refine V_goto (tgt := 5) (pc := 17) dJ7_fill_53178_17 (by decide) ?_
    exact V_cg (ih (by omega)) (by simp) rfl (by rw [wr_s rfl])
theorem ct_J7_fill_53178_16 {x : Int} (hx : Rg_ x) (h : post none (wr_ σ 16 (fun _ => x) 60)) : V_ l D mJ7_fill_53178 (CM_ D mJ7_fill_53178 post) 0 [some (vr_ 16), some (vi_ x), none, none] [] σ := by
  refine V_iconst (pc := 0) dJ7_fill_53178_0 ?_
  refine V_istore_n (pc := 1) dJ7_fill_53178_1 rfl (by decide) rfl ?_
  show V_ _ _ _ _ _ [_, _, _, _] _ _
  refine V_aload_n (pc := 2) dJ7_fill_53178_2 rfl rfl ?_
  refine V_alen (pc := 3) dJ7_fill_53178_3 gg_16 ?_
  refine V_istore_n (pc := 4) dJ7_fill_53178_4 rfl (by decide) rfl ?_
  show V_ _ _ _ _ _ [_, _, _, _] _ _
  exact V_cg (lp_J7_fill_53178_16 hx h 0 (Nat.zero_le _)) (by simp) rfl (by rw [wr_0])
theorem lp_J7_fill_53178_18 {x : Int} (hx : Rg_ x) (h : post none (wr_ σ 18 (fun _ => x) 60)) : ∀ i : Nat, i ≤ 60 → V_ l D mJ7_fill_53178 (CM_ D mJ7_fill_53178 post) 5 [some (vr_ 18), some (vi_ x), some (vi_ (i : Int)), some (vi_ 60)] [] (wr_ σ 18 (fun _ => x) i) := by
  refine up_ _ (fun i hi ih => ?_)
  refine V_iload_n (pc := 5) dJ7_fill_53178_5 rfl rfl ?_
  refine V_iload_n (pc := 6) dJ7_fill_53178_6 rfl rfl ?_
  refine V_icmp_ge (tgt := 20) (pc := 7) dJ7_fill_53178_7 (by decide) (by first | assumption | decide | omega | exact ba_rg hR | exact b2_rg) (by first | assumption | decide | omega | exact ba_rg hR | exact b2_rg) (fun h7 => ?_) (fun h7 => ?_)
  · skip
    refine V_return (pc := 20) dJ7_fill_53178_20 rfl (fun hR => ?_)
    rw [show i = 60 by omega]; exact h
  · skip
    refine V_aload_n (pc := 10) dJ7_fill_53178_10 rfl rfl ?_
    refine V_iload_n (pc := 11) dJ7_fill_53178_11 rfl rfl ?_
    refine V_iload_n (pc := 12) dJ7_fill_53178_12 rfl rfl ?_
    refine V_iastN (pc := 13) dJ7_fill_53178_13 gg_18 (by omega) (by decide) (by first | assumption | decide | omega | exact ba_rg hR | exact b2_rg) ?_
    refine V_iinc (pc := 14) dJ7_fill_53178_14 rfl (by decide) rfl ?_
    show V_ _ _ _ _ _ [_, _, _, _] _ _
    refine V_goto (tgt := 5) (pc := 17) dJ7_fill_53178_17 (by decide) ?_
    exact V_cg (ih (by omega)) (by simp) rfl (by rw [wr_s rfl])
theorem ct_J7_fill_53178_18 {x : Int} (hx : Rg_ x) (h : post none (wr_ σ 18 (fun _ => x) 60)) : V_ l D mJ7_fill_53178 (CM_ D mJ7_fill_53178 post) 0 [some (vr_ 18), some (vi_ x), none, none] [] σ := by
  refine V_iconst (pc := 0) dJ7_fill_53178_0 ?_
  refine V_istore_n (pc := 1) dJ7_fill_53178_1 rfl (by decide) rfl ?_
  show V_ _ _ _ _ _ [_, _, _, _] _ _
  refine V_aload_n (pc := 2) dJ7_fill_53178_2 rfl rfl ?_
  refine V_alen (pc := 3) dJ7_fill_53178_3 gg_18 ?_
  refine V_istore_n (pc := 4) dJ7_fill_53178_4 rfl (by decide) rfl ?_
  show V_ _ _ _ _ _ [_, _, _, _] _ _
  exact V_cg (lp_J7_fill_53178_18 hx h 0 (Nat.zero_le _)) (by simp) rfl (by rw [wr_0])
theorem ct_X3_isLost {x z : Int} (hx : 0 ≤ x ∧ x < 8) (hz : σ 29 3 = z) (hb : 0 ≤ z ∧ z < 64) (h : post (some (vi_ (b2_ (bt_ z x = true)))) σ) : V_ l D mX3_isLost (CM_ D mX3_isLost post) 0 [some (vr_ 29), some (vi_ x)] [] σ := by
  refine V_aload_n (pc := 0) dX3_isLost_0 rfl rfl ?_
  refine V_geti (pc := 1) dX3_isLost_1 fX3_72 rfl gg_29 rfl (fun r1 => ?_)
  rw [hz]
  refine V_iload_n (pc := 4) dX3_isLost_4 rfl rfl ?_
  refine V_ishr (pc := 5) dX3_isLost_5 ?_
  refine V_iconst (pc := 6) dX3_isLost_6 ?_
  refine V_iand (pc := 7) dX3_isLost_7 ?_
  rw [bit_b2 (by omega) (by omega)]
  refine V_iconst (pc := 8) dX3_isLost_8 ?_
  refine V_icmp_ne (tgt := 16) (pc := 9) dX3_isLost_9 (by decide) (by first | assumption | decide | omega | exact ba_rg hR | exact b2_rg) (by first | assumption | decide | omega | exact ba_rg hR | exact b2_rg) (fun h9 => ?_) (fun h9 => ?_)
  · skip
    rw [b2_n1] at h9
    rw [b2_f h9] at h
    refine V_iconst (pc := 16) dX3_isLost_16 ?_
    refine V_ireturn (pc := 17) dX3_isLost_17 rfl rfl (fun hR => ?_)
    exact h
  · skip
    rw [b2_1] at h9
    rw [b2_t h9] at h
    refine V_iconst (pc := 12) dX3_isLost_12 ?_
    refine V_goto (tgt := 17) (pc := 13) dX3_isLost_13 (by decide) ?_
    refine V_ireturn (pc := 17) dX3_isLost_17 rfl rfl (fun hR => ?_)
    exact h
theorem ct_X3_breakName {b : Nat} {yr : Int} (hC : RC_ v r σ) (hb : b ≤ 7) (hy : Rg_ yr) (hr : 0 ≤ r 2 1 ∧ r 2 1 < 256) (h : ∀ σ1, RC_ v (bk_ yr b r) σ1 → F3_ σ σ1 → post none σ1) : V_ l D mX3_breakName (CM_ D mX3_breakName post) 0 [some (vr_ 29), some (vi_ (b : Int)), some (vi_ yr)] [] σ := by
  have hs := so_rg (s := r 2 1) (k := (b : Int)) (m := 8) ⟨hr.1, by have := hr.2; omega⟩ ⟨by omega, by omega⟩
  refine V_aload_n (pc := 0) dX3_breakName_0 rfl rfl ?_
  refine V_geti (pc := 1) dX3_breakName_1 fX3_75 rfl gg_29 rfl (fun r1 => ?_)
  rw [hC.2.2.2.1] at r1 ⊢
  refine V_if_ne (tgt := 17) (pc := 4) dX3_breakName_4 (by decide) (by first | assumption | decide | omega | exact ba_rg hR | exact b2_rg) (fun h4 => ?_) (fun h4 => ?_)
  · skip
    refine V_aload_n (pc := 17) dX3_breakName_17 rfl rfl ?_
    refine V_dup (pc := 18) dX3_breakName_18 rfl ?_
    refine V_geti (pc := 19) dX3_breakName_19 fX3_75 rfl gg_29 rfl (fun r19 => ?_)
    have e19 : ∀ z, z = (z : Int) := fun _ => rfl
    first | rw [hC.2.2.2.1] at r19 ⊢ | (rw [show ms_ (ms_ σ 29 5 yr) 29 6 (b : Int) 29 4 = r 2 1 from by rw [ms_ne (by decide), ms_ne (by decide)]; exact hC.2.2.2.1] at r19 ⊢)
    refine V_iconst (pc := 22) dX3_breakName_22 ?_
    refine V_iload_n (pc := 23) dX3_breakName_23 rfl rfl ?_
    refine V_ishl (pc := 24) dX3_breakName_24 ?_
    refine V_ior (pc := 25) dX3_breakName_25 ?_
    rw [bit_or (by omega) (by omega)]
    refine V_puti (pc := 26) dX3_breakName_26 fX3_75 rfl gg_29 rfl pq_3_4 rfl rfl (by constructor <;> omega) ?_
    refine V_return (pc := 29) dX3_breakName_29 rfl (fun hR => ?_)
    refine h _ ?_ ?_
    · unfold bk_
      first
        | (rw [if_neg h4]; exact hC.broken)
        | (rw [if_pos h4]; exact hC.fy.fw.broken)
    · first
        | exact F3_.rf.ms (Or.inl rfl)
        | exact ((F3_.rf.ms (Or.inl rfl)).ms (Or.inl rfl)).ms (Or.inl rfl)
  · skip
    refine V_aload_n (pc := 7) dX3_breakName_7 rfl rfl ?_
    refine V_iload_n (pc := 8) dX3_breakName_8 rfl rfl ?_
    refine V_puti (pc := 9) dX3_breakName_9 fX3_78 rfl gg_29 rfl pq_3_5 rfl rfl (by first | assumption | decide | omega | exact ba_rg hR | exact b2_rg) ?_
    refine V_aload_n (pc := 12) dX3_breakName_12 rfl rfl ?_
    refine V_iload_n (pc := 13) dX3_breakName_13 rfl rfl ?_
    refine V_puti (pc := 14) dX3_breakName_14 fX3_81 rfl gg_29 rfl pq_3_6 rfl rfl (by constructor <;> omega) ?_
    refine V_aload_n (pc := 17) dX3_breakName_17 rfl rfl ?_
    refine V_dup (pc := 18) dX3_breakName_18 rfl ?_
    refine V_geti (pc := 19) dX3_breakName_19 fX3_75 rfl gg_29 rfl (fun r19 => ?_)
    have e19 : ∀ z, z = (z : Int) := fun _ => rfl
    first | rw [hC.2.2.2.1] at r19 ⊢ | (rw [show ms_ (ms_ σ 29 5 yr) 29 6 (b : Int) 29 4 = r 2 1 from by rw [ms_ne (by decide), ms_ne (by decide)]; exact hC.2.2.2.1] at r19 ⊢)
    refine V_iconst (pc := 22) dX3_breakName_22 ?_
    refine V_iload_n (pc := 23) dX3_breakName_23 rfl rfl ?_
    refine V_ishl (pc := 24) dX3_breakName_24 ?_
    refine V_ior (pc := 25) dX3_breakName_25 ?_
    rw [bit_or (by omega) (by omega)]
    refine V_puti (pc := 26) dX3_breakName_26 fX3_75 rfl gg_29 rfl pq_3_4 rfl rfl (by constructor <;> omega) ?_
    refine V_return (pc := 29) dX3_breakName_29 rfl (fun hR => ?_)
    refine h _ ?_ ?_
    · unfold bk_
      first
        | (rw [if_neg h4]; exact hC.broken)
        | (rw [if_pos h4]; exact hC.fy.fw.broken)
    · first
        | exact F3_.rf.ms (Or.inl rfl)
        | exact ((F3_.rf.ms (Or.inl rfl)).ms (Or.inl rfl)).ms (Or.inl rfl)
theorem ct_X3_begin (hW : WF_ v) (hC : HC_ v σ) (h : ∀ σ1, RC_ v (bg_ v) σ1 → F3_ σ σ1 → post none σ1) : V_ l D mX3_begin (CM_ D mX3_begin post) 0 [some (vr_ 29)] [] σ := by
  refine V_aload_n (pc := 0) dX3_begin_0 rfl rfl ?_
  refine V_getr (pc := 1) dX3_begin_1 fX3_18 rfl gg_29 rfl ?_
  refine V_getr (pc := 4) dX3_begin_4 fX3_57 rfl gg_19 rfl ?_
  refine V_iconst (pc := 7) dX3_begin_7 ?_
  refine V_aload_n (pc := 8) dX3_begin_8 rfl rfl ?_
  refine V_getr (pc := 9) dX3_begin_9 fX3_9 rfl gg_29 rfl ?_
  refine V_iconst (pc := 12) dX3_begin_12 ?_
  refine V_bipush (pc := 13) dX3_begin_13 (by decide) ?_
  refine V_copy (pc := 15) dX3_begin_15 kX3_60 ⟨by decide, by first | decide | exact Nat.le_of_ble_eq_true rfl⟩ gg_22 gg_30 (by decide) (by decide) (by decide) ?_
  refine V_aload_n (pc := 18) dX3_begin_18 rfl rfl ?_
  refine V_getr (pc := 19) dX3_begin_19 fX3_15 rfl gg_29 rfl ?_
  refine V_iconst (pc := 22) dX3_begin_22 ?_
  refine V_callS (pc := 23) (as := [_, _]) (rest := []) dX3_begin_23 ⟨kX3_66, sJ7_fill_53178, by decide, by decide⟩ rfl rfl (Nat.le_of_ble_eq_true rfl) (Nat.le_of_ble_eq_true rfl) ?_
  refine ct_J7_fill_53178_31 (by decide) ?_
  show V_ _ _ _ _ _ _ [] _
  refine V_aload_n (pc := 26) dX3_begin_26 rfl rfl ?_
  refine V_iconst (pc := 27) dX3_begin_27 ?_
  refine V_puti (pc := 28) dX3_begin_28 fX3_72 rfl gg_29 rfl pq_3_3 rfl rfl (by first | assumption | decide | omega | exact ba_rg hR | exact b2_rg) ?_
  refine V_aload_n (pc := 31) dX3_begin_31 rfl rfl ?_
  refine V_iconst (pc := 32) dX3_begin_32 ?_
  refine V_puti (pc := 33) dX3_begin_33 fX3_75 rfl gg_29 rfl pq_3_4 rfl rfl (by first | assumption | decide | omega | exact ba_rg hR | exact b2_rg) ?_
  refine V_aload_n (pc := 36) dX3_begin_36 rfl rfl ?_
  refine V_iconst (pc := 37) dX3_begin_37 ?_
  refine V_puti (pc := 38) dX3_begin_38 fX3_78 rfl gg_29 rfl pq_3_5 rfl rfl (by first | assumption | decide | omega | exact ba_rg hR | exact b2_rg) ?_
  refine V_aload_n (pc := 41) dX3_begin_41 rfl rfl ?_
  refine V_iconst (pc := 42) dX3_begin_42 ?_
  refine V_puti (pc := 43) dX3_begin_43 fX3_81 rfl gg_29 rfl pq_3_6 rfl rfl (by first | assumption | decide | omega | exact ba_rg hR | exact b2_rg) ?_
  refine V_return (pc := 46) dX3_begin_46 rfl (fun hR => ?_)
  refine h _ ⟨fun k hk => ?_, fun k hk => ?_, ?_, ?_, ?_, ?_⟩ ?_
  · have := (hC.ni hk).1
    have wn := hW.n
    have h8 : k < 8 := by omega
    simp [ms_, wr_, mc_, bg_, h8]; exact this
  · simp [ms_, wr_, bg_, hk]
  · simp [ms_, bg_]
  · simp [ms_, bg_]
  · simp [ms_, bg_]
  · simp [ms_, bg_]
  · intro a h1 h2 h3
    funext b
    simp [ms_, wr_, mc_, h1, h2, h3]
theorem lp_X3_sink {snd yr s : Int} (hW : WF_ v) (hR : RW_ v r) (hs : 0 ≤ s ∧ s ≤ 5) (hy : 0 ≤ yr ∧ yr ≤ 29) (hsn : 0 ≤ snd ∧ snd ≤ 255) (hs2 : wS_ v s) (hl : bt_ (r 2 0) s = false) (hK : ∀ σ1, RC_ v (si_ v snd yr s r) σ1 → F3_ σ σ1 → post none σ1) : ∀ i : Nat, i ≤ (v 7 0).toNat → ∀ τ, HC_ v τ → HD_ v τ → F3_ σ τ → RC_ v (fo_ (ln_ v snd yr s) i (ms_ r 2 0 (so_ (r 2 0) s))) τ → V_ l D mX3_sink (CM_ D mX3_sink post) 35 [some (vr_ 29), some (vi_ s), some (vi_ yr), some (vi_ snd), some (vi_ (i : Int)), none, none, none] [] τ := by
  have wl := hW.l
  have wn := hW.n
  have hn : ((v 7 0).toNat : Int) = v 7 0 := Int.toNat_of_nonneg wl.1
  refine up_ _ (fun i hi ih τ hC hD hF hRC => ?_)
  have hL := fl_RL hW (snd := snd) (yr := yr) (by omega) (hR.go hW hs2 hl) (n := i) (by omega)
  generalize hq : fo_ (ln_ v snd yr s) i (ms_ r 2 0 (so_ (r 2 0) s)) = q at hRC hL
  refine V_iload (pc := 35) dX3_sink_35 rfl ?_
  refine V_aload_n (pc := 37) dX3_sink_37 rfl rfl ?_
  refine V_getr (pc := 38) dX3_sink_38 fX3_18 rfl gg_29 rfl ?_
  refine V_geti (pc := 41) dX3_sink_41 fX3_84 rfl gg_19 rfl (fun r41 => ?_)
  rw [hC.2.2.1]
  refine V_icmp_ge (tgt := 178) (pc := 44) dX3_sink_44 (by decide) (by first | assumption | decide | omega | exact ba_rg hR | exact b2_rg) (by first | assumption | decide | omega | exact ba_rg hR | exact b2_rg) (fun h44 => ?_) (fun h44 => ?_)
  · skip
    skip
    refine V_return (pc := 178) dX3_sink_178 rfl (fun hR => ?_)
    refine hK _ ?_ hF
    have e : si_ v snd yr s r = q := by unfold si_; rw [if_pos ⟨hs2, hl⟩, ← hq, show i = (v 7 0).toNat by omega]
    rw [e]
    exact hRC
  · skip
    have wd := du_rg hW (i := i) (by omega)
    have wi := hW.li (k := i) (by omega)
    refine V_aload_n (pc := 47) dX3_sink_47 rfl rfl ?_
    refine V_getr (pc := 48) dX3_sink_48 fX3_18 rfl gg_29 rfl ?_
    refine V_getr (pc := 51) dX3_sink_51 fX3_87 rfl gg_19 rfl ?_
    refine V_iload (pc := 54) dX3_sink_54 rfl ?_
    refine V_ialdN (pc := 56) dX3_sink_56 gg_10 (by omega) (by decide) (fun r56 => ?_)
    rw [hD.2.2 i (by omega)] at r56 ⊢
    refine V_istore (pc := 57) dX3_sink_57 (by decide) rfl ?_
    show V_ _ _ _ _ _ [_, _, _, _, _, _, _, _] _ _
    refine V_aload_n (pc := 59) dX3_sink_59 rfl rfl ?_
    refine V_getr (pc := 60) dX3_sink_60 fX3_18 rfl gg_29 rfl ?_
    refine V_getr (pc := 63) dX3_sink_63 fX3_90 rfl gg_19 rfl ?_
    refine V_iload (pc := 66) dX3_sink_66 rfl ?_
    refine V_ialdN (pc := 68) dX3_sink_68 gg_24 (by omega) (by decide) (fun r68 => ?_)
    rw [(hC.li (k := i) (by omega)).1] at r68 ⊢
    refine V_iload_n (pc := 69) dX3_sink_69 rfl rfl ?_
    refine V_icmp_ne (tgt := 172) (pc := 70) dX3_sink_70 (by decide) (by first | assumption | decide | omega | exact ba_rg hR | exact b2_rg) (by first | assumption | decide | omega | exact ba_rg hR | exact b2_rg) (fun h70 => ?_) (fun h70 => ?_)
    · skip
      have e0 : ln_ v snd yr s i q = q := if_neg (fun z => h70 z.1)
      refine V_iinc (pc := 172) dX3_sink_172 rfl (by decide) rfl ?_
      show V_ _ _ _ _ _ [_, _, _, _, _, _, _, _] _ _
      refine V_goto (tgt := 35) (pc := 175) dX3_sink_175 (by decide) ?_
      refine V_none (k := 5) ?_
      show V_ _ _ _ _ _ [_, _, _, _, _, _, _, _] _ _
      exact V_cg (ih (by omega) _ hC hD hF (by show RC_ v (ln_ v snd yr s i (fo_ (ln_ v snd yr s) i (ms_ r 2 0 (so_ (r 2 0) s)))) _; rw [hq, e0]; exact hRC)) (by simp) rfl rfl
    · skip
      refine V_aload_n (pc := 73) dX3_sink_73 rfl rfl ?_
      refine V_getr (pc := 74) dX3_sink_74 fX3_18 rfl gg_29 rfl ?_
      refine V_iload (pc := 77) dX3_sink_77 rfl ?_
      refine V_callV (pc := 79) (as := [_]) (rest := []) dX3_sink_79 ⟨kX3_93, iX1_hasName, by decide, by decide⟩ rc_19 rfl rfl (Nat.le_of_ble_eq_true rfl) (Nat.le_of_ble_eq_true rfl) ?_
      refine ct_X1_hasName r56 hC.2.1 ?_
      show V_ _ _ _ _ _ _ [_] _
      refine V_if_eq (tgt := 172) (pc := 82) dX3_sink_82 (by decide) (by first | assumption | decide | omega | exact ba_rg hR | exact b2_rg) (fun h82 => ?_) (fun h82 => ?_)
      · skip
        rw [b2_0] at h82
        have e0 : ln_ v snd yr s i q = q := if_neg (fun z => h82 (by
          have hbb := bb_rg z.2.1.2.1
          have h1 := z.2.2.1
          unfold pp_
          rw [if_pos z.2.1]
          omega))
        refine V_iinc (pc := 172) dX3_sink_172 rfl (by decide) rfl ?_
        show V_ _ _ _ _ _ [_, _, _, _, _, _, _, _] _ _
        refine V_goto (tgt := 35) (pc := 175) dX3_sink_175 (by decide) ?_
        refine V_none (k := 5) ?_
        show V_ _ _ _ _ _ [_, _, _, _, _, _, _, _] _ _
        exact V_cg (ih (by omega) _ hC hD hF (by show RC_ v (ln_ v snd yr s i (fo_ (ln_ v snd yr s) i (ms_ r 2 0 (so_ (r 2 0) s)))) _; rw [hq, e0]; exact hRC)) (by simp) rfl rfl
      · skip
        rw [b2_n0] at h82
        have h75 : sd_ v i := by
          refine Decidable.byContradiction (fun z => ?_)
          unfold pp_ at h82
          rw [if_neg z] at h82
          omega
        have hbb := bb_rg h75.2.1
        rw [show pp_ v i = bb_ v (v 9 i) from if_pos h75] at h82 ⊢
        have h104 : bb_ v (v 9 i) ≠ -1 := by omega
        refine V_iload_n (pc := 85) dX3_sink_85 rfl rfl ?_
        refine V_iload (pc := 86) dX3_sink_86 rfl ?_
        refine V_ishr (pc := 88) dX3_sink_88 ?_
        refine V_iconst (pc := 89) dX3_sink_89 ?_
        refine V_iand (pc := 90) dX3_sink_90 ?_
        rw [bit_b2 (by omega) (by omega)]
        refine V_if_ne (tgt := 97) (pc := 91) dX3_sink_91 (by decide) (by first | assumption | decide | omega | exact ba_rg hR | exact b2_rg) (fun h91 => ?_) (fun h91 => ?_)
        · skip
          rw [b2_n0] at h91
          obtain ⟨b, hb⟩ : ∃ b : Nat, bb_ v (v 9 i) = (b : Int) := i_nat (by omega)
          have e1 : ln_ v snd yr s i q = py_ yr s.toNat b (du_ v i) (v 6 b) q := by
            unfold ln_
            rw [if_pos ⟨h70, h75, h104, h91⟩, hb]
            rfl
          rw [hb] at hbb
          have hbn : (b : Int) < v 3 0 := hbb.2
          rw [hb]
          refine V_aload_n (pc := 97) dX3_sink_97 rfl rfl ?_
          refine V_getr (pc := 98) dX3_sink_98 fX3_18 rfl gg_29 rfl ?_
          refine V_getr (pc := 101) dX3_sink_101 fX3_96 rfl gg_19 rfl ?_
          refine V_iload (pc := 104) dX3_sink_104 rfl ?_
          refine V_ialdN (pc := 106) dX3_sink_106 gg_28 (by omega) (by decide) (fun r106 => ?_)
          rw [hD.2.1 i (by omega)] at r106 ⊢
          refine V_istore (pc := 107) dX3_sink_107 (by decide) rfl ?_
          show V_ _ _ _ _ _ [_, _, _, _, _, _, _, _] _ _
          refine V_iload (pc := 109) dX3_sink_109 rfl ?_
          refine V_aload_n (pc := 111) dX3_sink_111 rfl rfl ?_
          refine V_getr (pc := 112) dX3_sink_112 fX3_9 rfl gg_29 rfl ?_
          refine V_iload (pc := 115) dX3_sink_115 rfl ?_
          refine V_ialdN (pc := 117) dX3_sink_117 gg_30 (by omega) (by decide) (fun r117 => ?_)
          rw [hRC.1 b hbn] at r117 ⊢
          refine V_mmin (pc := 118) dX3_sink_118 kX3_99 ⟨by decide, Nat.le_of_ble_eq_true rfl⟩ (by constructor <;> omega) (by constructor <;> omega) ?_
          rw [show (if q 0 b < du_ v i then q 0 b else du_ v i) = mn_ (du_ v i) (q 0 b) from rfl]
          have hm := mn_rg wd.1 (hL.1 b hbn).1
          have hlb := hL.1 b hbn
          have hls := hL.2.2.1
          refine V_istore (pc := 121) dX3_sink_121 (by decide) rfl ?_
          show V_ _ _ _ _ _ [_, _, _, _, _, _, _, _] _ _
          refine V_aload_n (pc := 123) dX3_sink_123 rfl rfl ?_
          refine V_getr (pc := 124) dX3_sink_124 fX3_9 rfl gg_29 rfl ?_
          refine V_iload (pc := 127) dX3_sink_127 rfl ?_
          refine V_dup2 (pc := 129) dX3_sink_129 rfl rfl ?_
          refine V_ialdN (pc := 130) dX3_sink_130 gg_30 (by omega) (by decide) (fun r130 => ?_)
          rw [hRC.1 b hbn] at r130 ⊢
          refine V_iload (pc := 131) dX3_sink_131 rfl ?_
          refine V_isub (pc := 133) dX3_sink_133 ?_
          refine V_iastN (pc := 134) dX3_sink_134 gg_30 (by omega) (by decide) (by constructor <;> omega) ?_
          refine V_aload_n (pc := 135) dX3_sink_135 rfl rfl ?_
          refine V_getr (pc := 136) dX3_sink_136 fX3_15 rfl gg_29 rfl ?_
          refine V_iload_n (pc := 139) dX3_sink_139 rfl rfl ?_
          refine V_dup2 (pc := 140) dX3_sink_140 rfl rfl ?_
          refine V_iald (pc := 141) dX3_sink_141 gg_31 ⟨by omega, by omega⟩ (by decide) (fun r141 => ?_)
          rw [show (ms_ τ 30 b (q 0 b - mn_ (du_ v i) (q 0 b))) 31 s.toNat = q 1 s.toNat from by rw [ms_nk (by decide)]; exact hRC.2.1 _ (by omega)] at r141 ⊢
          refine V_iload (pc := 142) dX3_sink_142 rfl ?_
          refine V_iadd (pc := 144) dX3_sink_144 ?_
          refine V_iast (pc := 145) dX3_sink_145 gg_31 ⟨by omega, by omega⟩ (by decide) (by constructor <;> omega) ?_
          have hRC2 : RC_ v (pz_ s.toNat b (du_ v i) q) _ := hRC.left.paid (b := s.toNat) (x := q 1 s.toNat + mn_ (du_ v i) (q 0 b))
          have hF2 := (hF.ms (k := 30) (j := b) (x := q 0 b - mn_ (du_ v i) (q 0 b)) (by simp)).ms (k := 31) (j := s.toNat) (x := q 1 s.toNat + mn_ (du_ v i) (q 0 b)) (by simp)
          have hC2 := HC_.f3 hC ((F3_.rf.ms (k := 30) (j := b) (x := q 0 b - mn_ (du_ v i) (q 0 b)) (by simp)).ms (k := 31) (j := s.toNat) (x := q 1 s.toNat + mn_ (du_ v i) (q 0 b)) (by simp))
          have hD2 := HD_.f3 hD ((F3_.rf.ms (k := 30) (j := b) (x := q 0 b - mn_ (du_ v i) (q 0 b)) (by simp)).ms (k := 31) (j := s.toNat) (x := q 1 s.toNat + mn_ (du_ v i) (q 0 b)) (by simp))
          refine V_iload (pc := 146) dX3_sink_146 rfl ?_
          refine V_iload (pc := 148) dX3_sink_148 rfl ?_
          refine V_icmp_ge (tgt := 172) (pc := 150) dX3_sink_150 (by decide) (by constructor <;> omega) (by constructor <;> omega) (fun h150 => ?_) (fun h150 => ?_)
          · skip
            have e2 : py_ yr s.toNat b (du_ v i) (v 6 b) q = pz_ s.toNat b (du_ v i) q := by unfold py_; rw [if_neg (by omega)]
            refine V_iinc (pc := 172) dX3_sink_172 rfl (by decide) rfl ?_
            show V_ _ _ _ _ _ [_, _, _, _, _, _, _, _] _ _
            refine V_goto (tgt := 35) (pc := 175) dX3_sink_175 (by decide) ?_
            refine V_none (k := 5) ?_
            show V_ _ _ _ _ _ [_, _, _, _, _, _, _, _] _ _
            refine V_none (k := 6) ?_
            show V_ _ _ _ _ _ [_, _, _, _, _, _, _, _] _ _
            refine V_none (k := 7) ?_
            show V_ _ _ _ _ _ [_, _, _, _, _, _, _, _] _ _
            exact V_cg (ih (by omega) _ hC2 hD2 hF2 (by show RC_ v (ln_ v snd yr s i (fo_ (ln_ v snd yr s) i (ms_ r 2 0 (so_ (r 2 0) s)))) _; rw [hq, e1, e2]; exact hRC2)) (by simp) rfl rfl
          · skip
            refine V_aload_n (pc := 153) dX3_sink_153 rfl rfl ?_
            refine V_getr (pc := 154) dX3_sink_154 fX3_18 rfl gg_29 rfl ?_
            refine V_iload (pc := 157) dX3_sink_157 rfl ?_
            refine V_callV (pc := 159) (as := [_]) (rest := []) dX3_sink_159 ⟨kX3_105, iX1_isDrowned, by decide, by decide⟩ rc_19 rfl rfl (Nat.le_of_ble_eq_true rfl) (Nat.le_of_ble_eq_true rfl) ?_
            refine ct_X1_isDrowned (by omega) hC2.2.2.2.2.2.2 ?_
            rw [show ∀ z1 z2, ms_ (ms_ τ 30 b z1) 31 s.toNat z2 19 6 = τ 19 6 from fun z1 z2 => by rw [ms_nk (by decide), ms_nk (by decide)]]
            show V_ _ _ _ _ _ _ [_] _
            refine V_if_ne (tgt := 172) (pc := 162) dX3_sink_162 (by decide) (by first | assumption | decide | omega | exact ba_rg hR | exact b2_rg) (fun h162 => ?_) (fun h162 => ?_)
            · skip
              rw [b2_n0] at h162
              have e2 : py_ yr s.toNat b (du_ v i) (v 6 b) q = pz_ s.toNat b (du_ v i) q := by
                unfold py_
                rw [if_neg (fun z => by rw [(hC.ni hbn).2.2] at h162; simp at h162; omega)]
              refine V_iinc (pc := 172) dX3_sink_172 rfl (by decide) rfl ?_
              show V_ _ _ _ _ _ [_, _, _, _, _, _, _, _] _ _
              refine V_goto (tgt := 35) (pc := 175) dX3_sink_175 (by decide) ?_
              refine V_none (k := 5) ?_
              show V_ _ _ _ _ _ [_, _, _, _, _, _, _, _] _ _
              refine V_none (k := 6) ?_
              show V_ _ _ _ _ _ [_, _, _, _, _, _, _, _] _ _
              refine V_none (k := 7) ?_
              show V_ _ _ _ _ _ [_, _, _, _, _, _, _, _] _ _
              exact V_cg (ih (by omega) _ hC2 hD2 hF2 (by show RC_ v (ln_ v snd yr s i (fo_ (ln_ v snd yr s) i (ms_ r 2 0 (so_ (r 2 0) s)))) _; rw [hq, e1, e2]; exact hRC2)) (by simp) rfl rfl
            · skip
              rw [b2_0] at h162
              have e2 : py_ yr s.toNat b (du_ v i) (v 6 b) q = bk_ yr b (pz_ s.toNat b (du_ v i) q) := by
                unfold py_
                rw [if_pos ⟨h150, by rw [(hC.ni hbn).2.2] at h162; simp at h162; have := (hW.ni hbn).2.2; omega⟩]
              refine V_aload_n (pc := 165) dX3_sink_165 rfl rfl ?_
              refine V_iload (pc := 166) dX3_sink_166 rfl ?_
              refine V_iload_n (pc := 168) dX3_sink_168 rfl rfl ?_
              refine V_callV (pc := 169) (as := [_, _]) (rest := []) dX3_sink_169 ⟨kX3_108, iX3_breakName, by decide, by decide⟩ rc_29 rfl rfl (Nat.le_of_ble_eq_true rfl) (Nat.le_of_ble_eq_true rfl) ?_
              refine ct_X3_breakName (v := v) hRC2 (by omega) (by constructor <;> omega) (by rw [pz_2]; exact hL.2.2.2.2.1) (fun σ1 hB1 hB2 => ?_)
              show V_ _ _ _ _ _ _ [] _
              refine V_iinc (pc := 172) dX3_sink_172 rfl (by decide) rfl ?_
              show V_ _ _ _ _ _ [_, _, _, _, _, _, _, _] _ _
              refine V_goto (tgt := 35) (pc := 175) dX3_sink_175 (by decide) ?_
              refine V_none (k := 5) ?_
              show V_ _ _ _ _ _ [_, _, _, _, _, _, _, _] _ _
              refine V_none (k := 6) ?_
              show V_ _ _ _ _ _ [_, _, _, _, _, _, _, _] _ _
              refine V_none (k := 7) ?_
              show V_ _ _ _ _ _ [_, _, _, _, _, _, _, _] _ _
              exact V_cg (ih (by omega) _ (hC2.f3 hB2) (hD2.f3 hB2) (hF2.tr hB2) (by show RC_ v (ln_ v snd yr s i (fo_ (ln_ v snd yr s) i (ms_ r 2 0 (so_ (r 2 0) s)))) _; rw [hq, e1, e2]; exact hB1)) (by simp) rfl rfl
        · skip
          rw [b2_0] at h91
          have e0 : ln_ v snd yr s i q = q := if_neg (fun z => h91 z.2.2.2)
          refine V_goto (tgt := 172) (pc := 94) dX3_sink_94 (by decide) ?_
          refine V_iinc (pc := 172) dX3_sink_172 rfl (by decide) rfl ?_
          show V_ _ _ _ _ _ [_, _, _, _, _, _, _, _] _ _
          refine V_goto (tgt := 35) (pc := 175) dX3_sink_175 (by decide) ?_
          refine V_none (k := 5) ?_
          show V_ _ _ _ _ _ [_, _, _, _, _, _, _, _] _ _
          exact V_cg (ih (by omega) _ hC hD hF (by show RC_ v (ln_ v snd yr s i (fo_ (ln_ v snd yr s) i (ms_ r 2 0 (so_ (r 2 0) s)))) _; rw [hq, e0]; exact hRC)) (by simp) rfl rfl
theorem ct_X3_sink {snd yr s : Int} (hW : WF_ v) (hR : RW_ v r) (hs : 0 ≤ s ∧ s ≤ 5) (hy : 0 ≤ yr ∧ yr ≤ 29) (hsn : 0 ≤ snd ∧ snd ≤ 255) (hC : HC_ v σ) (hD : HD_ v σ) (hRC : RC_ v r σ) (hK : ∀ σ1, RC_ v (si_ v snd yr s r) σ1 → F3_ σ σ1 → post none σ1) : V_ l D mX3_sink (CM_ D mX3_sink post) 0 [some (vr_ 29), some (vi_ s), some (vi_ yr), some (vi_ snd), none, none, none, none] [] σ := by
  have ws := hW.s
  have hr0 := hR.2.2.1
  refine V_aload_n (pc := 0) dX3_sink_0 rfl rfl ?_
  refine V_getr (pc := 1) dX3_sink_1 fX3_18 rfl gg_29 rfl ?_
  refine V_iload_n (pc := 4) dX3_sink_4 rfl rfl ?_
  refine V_callV (pc := 5) (as := [_]) (rest := []) dX3_sink_5 ⟨kX3_54, iX1_hasShip, by decide, by decide⟩ rc_19 rfl rfl (Nat.le_of_ble_eq_true rfl) (Nat.le_of_ble_eq_true rfl) ?_
  refine ct_X1_hasShip ⟨by omega, by omega⟩ hC.1 ?_
  show V_ _ _ _ _ _ _ [_] _
  refine V_if_eq (tgt := 19) (pc := 8) dX3_sink_8 (by decide) (by first | assumption | decide | omega | exact ba_rg hR | exact b2_rg) (fun h8 => ?_) (fun h8 => ?_)
  · skip
    rw [b2_0] at h8
    refine V_return (pc := 19) dX3_sink_19 rfl (fun hR => ?_)
    first | exact hK _ (by rw [show si_ v snd yr s r = r from if_neg (fun z => h8 z.1)]; exact hRC) F3_.rf | exact hK _ (by rw [show si_ v snd yr s r = r from if_neg (fun z => by rw [h16] at z; cases z.2)]; exact hRC) F3_.rf
  · skip
    rw [b2_n0] at h8
    refine V_aload_n (pc := 11) dX3_sink_11 rfl rfl ?_
    refine V_iload_n (pc := 12) dX3_sink_12 rfl rfl ?_
    refine V_callV (pc := 13) (as := [_]) (rest := []) dX3_sink_13 ⟨kX3_46, iX3_isLost, by decide, by decide⟩ rc_29 rfl rfl (Nat.le_of_ble_eq_true rfl) (Nat.le_of_ble_eq_true rfl) ?_
    refine ct_X3_isLost (by omega) hRC.2.2.1 hr0 ?_
    show V_ _ _ _ _ _ _ [_] _
    refine V_if_eq (tgt := 20) (pc := 16) dX3_sink_16 (by decide) (by first | assumption | decide | omega | exact ba_rg hR | exact b2_rg) (fun h16 => ?_) (fun h16 => ?_)
    · skip
      rw [b2_0] at h16
      have h16 : bt_ (r 2 0) s = false := by simpa using h16
      refine V_aload_n (pc := 20) dX3_sink_20 rfl rfl ?_
      refine V_dup (pc := 21) dX3_sink_21 rfl ?_
      refine V_geti (pc := 22) dX3_sink_22 fX3_72 rfl gg_29 rfl (fun r22 => ?_)
      rw [hRC.2.2.1] at r22 ⊢
      refine V_iconst (pc := 25) dX3_sink_25 ?_
      refine V_iload_n (pc := 26) dX3_sink_26 rfl rfl ?_
      refine V_ishl (pc := 27) dX3_sink_27 ?_
      refine V_ior (pc := 28) dX3_sink_28 ?_
      rw [bit_or (by omega) (by omega)]
      have hso := so_rg (s := r 2 0) (k := s) (m := 6) ⟨hr0.1, by have := hr0.2; omega⟩ ⟨by omega, by omega⟩
      refine V_puti (pc := 29) dX3_sink_29 fX3_72 rfl gg_29 rfl pq_3_3 rfl rfl (by constructor <;> omega) ?_
      refine V_iconst (pc := 32) dX3_sink_32 ?_
      refine V_istore (pc := 33) dX3_sink_33 (by decide) rfl ?_
      show V_ _ _ _ _ _ [_, _, _, _, _, _, _, _] _ _
      exact V_cg (lp_X3_sink hW hR hs hy hsn h8 h16 hK 0 (Nat.zero_le _) _ (hC.f3 (F3_.rf.ms (Or.inl rfl))) (hD.f3 (F3_.rf.ms (Or.inl rfl))) (F3_.rf.ms (Or.inl rfl)) hRC.lost) (by simp) rfl rfl
    · skip
      rw [b2_n0] at h16
      refine V_return (pc := 19) dX3_sink_19 rfl (fun hR => ?_)
      first | exact hK _ (by rw [show si_ v snd yr s r = r from if_neg (fun z => h8 z.1)]; exact hRC) F3_.rf | exact hK _ (by rw [show si_ v snd yr s r = r from if_neg (fun z => by rw [h16] at z; cases z.2)]; exact hRC) F3_.rf
end
