/-! ## class Harbour: settling -/
theorem ms_rw {σ : Mm_} {k j a : Nat} {x : Int} (h : a ≠ k) : ms_ σ k j x a = σ a := by funext b; simp [ms_, h]
theorem wr_rw {σ : Mm_} {c n a : Nat} {f : Nat → Int} (h : a ≠ c) : wr_ σ c f n a = σ a := by funext b; simp [wr_, h]
def fg_ (L : Int) (b : Nat → Int) (x : Int) : Int := 10 * (ba_ L b x - 48) + (ba_ L b (x + 1) - 48)
theorem it_rg (t : Nat) {L : Int} {b : Nat → Int} {m : Int} (hL : 0 ≤ L) (hm : L + 1 ≤ m * (sp_ t : Int)) (hm0 : 0 ≤ m) : 0 ≤ it_ t L b ∧ it_ t L b ≤ m := by
  have h0 : 0 < (sp_ t : Int) := by unfold sp_; split <;> decide
  unfold it_
  split
  · exact ⟨Int.ediv_nonneg (by omega) (by omega), Int.ediv_le_of_le_mul h0 hm⟩
  · omega
theorem ba_255 {L : Int} {b : Nat → Int} (x : Int) (hb : ∀ j, 0 ≤ b j ∧ b j ≤ 255) : 0 ≤ ba_ L b x ∧ ba_ L b x ≤ 255 := by
  unfold ba_
  split
  · exact hb _
  · omega
section
variable {l : Launch} {D : Dt_} {v σ : Mm_} {post : Option Av_ → Mm_ → Prop}
theorem cu_X5_byteAt_1 {L : Int} {b : Nat → Int} (e1 : σ 1 3 = L) (e2 : σ 2 = b) {x : Int} (hx : Rg_ x) (hL : 0 ≤ L ∧ L ≤ 23) (h : RM_ σ → Rg_ (ba_ L b x) → post (some (vi_ (ba_ L b x))) σ) : V_ l D mX5_byteAt (CM_ D mX5_byteAt post) 0 [some (vr_ 1), some (vi_ x)] [] σ := by
  subst e1; subst e2; exact V_rg (fun hR => ct_X5_byteAt_1 hx hL (h hR (ba_rg hR)))
theorem cu_X5_figureAt_1 {L : Int} {b : Nat → Int} (e1 : σ 1 3 = L) (e2 : σ 2 = b) {x : Int} (hx : Rg_ x) (hL : 0 ≤ L ∧ L ≤ 23) (h : post (some (vi_ (ba_ L b x - 48))) σ) : V_ l D mX5_figureAt (CM_ D mX5_figureAt post) 0 [some (vr_ 1), some (vi_ x)] [] σ := by
  subst e1; subst e2; exact ct_X5_figureAt_1 hx hL h
theorem cu_X5_figuresAt_1 {L : Int} {b : Nat → Int} (e1 : σ 1 3 = L) (e2 : σ 2 = b) {x : Int} (hx : 0 ≤ x ∧ x ≤ 1000) (hL : 0 ≤ L ∧ L ≤ 23) (h : post (some (vi_ (fg_ L b x))) σ) : V_ l D mX5_figuresAt (CM_ D mX5_figuresAt post) 0 [some (vr_ 1), some (vi_ x)] [] σ := by
  subst e1; subst e2; exact ct_X5_figuresAt_1 hx hL h
theorem cu_X5_items_1 {L : Int} {b : Nat → Int} (e1 : σ 1 3 = L) (e2 : σ 2 = b) (hs : σ 1 1 = 4) (hL : 0 ≤ L ∧ L ≤ 23) (h : post (some (vi_ (it_ 0 L b))) σ) : V_ l D mX5_items (CM_ D mX5_items post) 0 [some (vr_ 1)] [] σ := by
  subst e1; subst e2; exact ct_X5_items_1 hs hL h
theorem fg_b_1 {L : Int} {σ : Mm_} (x : Int) (hb : ∀ j, 0 ≤ σ 2 j ∧ σ 2 j ≤ 255) : 0 ≤ ba_ L (σ 2) x ∧ ba_ L (σ 2) x ≤ 255 := by
  unfold ba_
  split
  · exact hb _
  · omega
theorem cu_X5_byteAt_3 {L : Int} {b : Nat → Int} (e1 : σ 3 3 = L) (e2 : σ 4 = b) {x : Int} (hx : Rg_ x) (hL : 0 ≤ L ∧ L ≤ 39) (h : RM_ σ → Rg_ (ba_ L b x) → post (some (vi_ (ba_ L b x))) σ) : V_ l D mX5_byteAt (CM_ D mX5_byteAt post) 0 [some (vr_ 3), some (vi_ x)] [] σ := by
  subst e1; subst e2; exact V_rg (fun hR => ct_X5_byteAt_3 hx hL (h hR (ba_rg hR)))
theorem cu_X5_figureAt_3 {L : Int} {b : Nat → Int} (e1 : σ 3 3 = L) (e2 : σ 4 = b) {x : Int} (hx : Rg_ x) (hL : 0 ≤ L ∧ L ≤ 39) (h : post (some (vi_ (ba_ L b x - 48))) σ) : V_ l D mX5_figureAt (CM_ D mX5_figureAt post) 0 [some (vr_ 3), some (vi_ x)] [] σ := by
  subst e1; subst e2; exact ct_X5_figureAt_3 hx hL h
theorem cu_X5_figuresAt_3 {L : Int} {b : Nat → Int} (e1 : σ 3 3 = L) (e2 : σ 4 = b) {x : Int} (hx : 0 ≤ x ∧ x ≤ 1000) (hL : 0 ≤ L ∧ L ≤ 39) (h : post (some (vi_ (fg_ L b x))) σ) : V_ l D mX5_figuresAt (CM_ D mX5_figuresAt post) 0 [some (vr_ 3), some (vi_ x)] [] σ := by
  subst e1; subst e2; exact ct_X5_figuresAt_3 hx hL h
theorem cu_X5_items_3 {L : Int} {b : Nat → Int} (e1 : σ 3 3 = L) (e2 : σ 4 = b) (hs : σ 3 1 = 5) (hL : 0 ≤ L ∧ L ≤ 39) (h : post (some (vi_ (it_ 1 L b))) σ) : V_ l D mX5_items (CM_ D mX5_items post) 0 [some (vr_ 3)] [] σ := by
  subst e1; subst e2; exact ct_X5_items_3 hs hL h
theorem fg_b_3 {L : Int} {σ : Mm_} (x : Int) (hb : ∀ j, 0 ≤ σ 4 j ∧ σ 4 j ≤ 255) : 0 ≤ ba_ L (σ 4) x ∧ ba_ L (σ 4) x ≤ 255 := by
  unfold ba_
  split
  · exact hb _
  · omega
theorem cu_X5_byteAt_5 {L : Int} {b : Nat → Int} (e1 : σ 5 3 = L) (e2 : σ 6 = b) {x : Int} (hx : Rg_ x) (hL : 0 ≤ L ∧ L ≤ 59) (h : RM_ σ → Rg_ (ba_ L b x) → post (some (vi_ (ba_ L b x))) σ) : V_ l D mX5_byteAt (CM_ D mX5_byteAt post) 0 [some (vr_ 5), some (vi_ x)] [] σ := by
  subst e1; subst e2; exact V_rg (fun hR => ct_X5_byteAt_5 hx hL (h hR (ba_rg hR)))
theorem cu_X5_figureAt_5 {L : Int} {b : Nat → Int} (e1 : σ 5 3 = L) (e2 : σ 6 = b) {x : Int} (hx : Rg_ x) (hL : 0 ≤ L ∧ L ≤ 59) (h : post (some (vi_ (ba_ L b x - 48))) σ) : V_ l D mX5_figureAt (CM_ D mX5_figureAt post) 0 [some (vr_ 5), some (vi_ x)] [] σ := by
  subst e1; subst e2; exact ct_X5_figureAt_5 hx hL h
theorem cu_X5_figuresAt_5 {L : Int} {b : Nat → Int} (e1 : σ 5 3 = L) (e2 : σ 6 = b) {x : Int} (hx : 0 ≤ x ∧ x ≤ 1000) (hL : 0 ≤ L ∧ L ≤ 59) (h : post (some (vi_ (fg_ L b x))) σ) : V_ l D mX5_figuresAt (CM_ D mX5_figuresAt post) 0 [some (vr_ 5), some (vi_ x)] [] σ := by
  subst e1; subst e2; exact ct_X5_figuresAt_5 hx hL h
theorem cu_X5_items_5 {L : Int} {b : Nat → Int} (e1 : σ 5 3 = L) (e2 : σ 6 = b) (hs : σ 5 1 = 5) (hL : 0 ≤ L ∧ L ≤ 59) (h : post (some (vi_ (it_ 2 L b))) σ) : V_ l D mX5_items (CM_ D mX5_items post) 0 [some (vr_ 5)] [] σ := by
  subst e1; subst e2; exact ct_X5_items_5 hs hL h
theorem fg_b_5 {L : Int} {σ : Mm_} (x : Int) (hb : ∀ j, 0 ≤ σ 6 j ∧ σ 6 j ≤ 255) : 0 ≤ ba_ L (σ 6) x ∧ ba_ L (σ 6) x ≤ 255 := by
  unfold ba_
  split
  · exact hb _
  · omega
theorem lp_X1_settleShips {L : Int} {b : Nat → Int} (e1 : σ 1 3 = L) (e2 : σ 2 = b) (e3 : σ 1 1 = 4) (hL : 0 ≤ L ∧ L ≤ 23) (hb : ∀ j, 0 ≤ b j ∧ b j ≤ 255) (h : post none (wr_ (wr_ (ms_ σ 19 0 (it_ 0 L b)) 20 (fun j => fg_ L b ((j : Int) * 4)) (it_ 0 L b).toNat) 21 (fun j => ba_ L b ((j : Int) * 4 + 2) - 48) (it_ 0 L b).toNat)) : ∀ i : Nat, i ≤ (it_ 0 L b).toNat → V_ l D mX1_settleShips (CM_ D mX1_settleShips post) 15 [some (vr_ 19), some (vr_ 1), some (vi_ (i : Int)), none] [] (wr_ (wr_ (ms_ σ 19 0 (it_ 0 L b)) 20 (fun j => fg_ L b ((j : Int) * 4)) i) 21 (fun j => ba_ L b ((j : Int) * 4 + 2) - 48) i) := by
  have wi := it_rg 0 (b := b) hL.1 (m := 6) (by have := hL.2; simp only [show ((sp_ 0 : Nat) : Int) = 4 from rfl]; omega) (by decide)
  refine up_ _ (fun i hi ih => ?_)
  have hn : ((it_ 0 L b).toNat : Int) = it_ 0 L b := Int.toNat_of_nonneg wi.1
  obtain ⟨τ, hτ⟩ : ∃ τ, τ = wr_ (wr_ (ms_ σ 19 0 (it_ 0 L b)) 20 (fun j => fg_ L b ((j : Int) * 4)) i) 21 (fun j => ba_ L b ((j : Int) * 4 + 2) - 48) i := ⟨_, rfl⟩
  rw [← hτ]
  have q1 : τ 1 3 = L := by rw [hτ]; simp only [ms_rw, wr_rw, ne_eq, Nat.reduceEqDiff, not_false_eq_true]; exact e1
  have q2 : τ 2 = b := by rw [hτ]; simp only [ms_rw, wr_rw, ne_eq, Nat.reduceEqDiff, not_false_eq_true]; exact e2
  have q3 : τ 1 1 = 4 := by rw [hτ]; simp only [ms_rw, wr_rw, ne_eq, Nat.reduceEqDiff, not_false_eq_true]; exact e3
  have q4 : τ 19 0 = it_ 0 L b := by rw [hτ]; simp only [wr_rw, ne_eq, Nat.reduceEqDiff, not_false_eq_true]; exact ms_eq
  refine V_iload_n (pc := 15) dX1_settleShips_15 rfl rfl ?_
  refine V_aload_n (pc := 16) dX1_settleShips_16 rfl rfl ?_
  refine V_geti (pc := 17) dX1_settleShips_17 fX1_42 rfl gg_19 rfl (fun r17 => ?_)
  rw [q4]
  refine V_icmp_ge (tgt := 60) (pc := 20) dX1_settleShips_20 (by decide) (by first | assumption | decide | omega | exact ba_rg hR | exact b2_rg) (by first | assumption | decide | omega | exact ba_rg hR | exact b2_rg) (fun h20 => ?_) (fun h20 => ?_)
  · skip
    refine V_return (pc := 60) dX1_settleShips_60 rfl (fun hR => ?_)
    rw [show i = (it_ 0 L b).toNat by omega] at hτ
    rw [hτ]
    exact h
  · skip
    refine V_iload_n (pc := 23) dX1_settleShips_23 rfl rfl ?_
    refine V_aload_n (pc := 24) dX1_settleShips_24 rfl rfl ?_
    refine V_geti (pc := 25) dX1_settleShips_25 fX1_67 rfl gg_1 rfl (fun r25 => ?_)
    rw [q3]
    refine V_imul (pc := 28) dX1_settleShips_28 ?_
    refine V_istore_n (pc := 29) dX1_settleShips_29 rfl (by decide) rfl ?_
    show V_ _ _ _ _ _ [_, _, _, _] _ _
    refine V_aload_n (pc := 30) dX1_settleShips_30 rfl rfl ?_
    refine V_getr (pc := 31) dX1_settleShips_31 fX1_9 rfl gg_19 rfl ?_
    refine V_iload_n (pc := 34) dX1_settleShips_34 rfl rfl ?_
    refine V_aload_n (pc := 35) dX1_settleShips_35 rfl rfl ?_
    refine V_iload_n (pc := 36) dX1_settleShips_36 rfl rfl ?_
    refine V_callV (pc := 37) (as := [_]) (rest := [_, _]) dX1_settleShips_37 ⟨kX1_70, iX5_figuresAt, by decide, by decide⟩ rc_1 rfl rfl (Nat.le_of_ble_eq_true rfl) (Nat.le_of_ble_eq_true rfl) ?_
    refine cu_X5_figuresAt_1 (L := L) (b := b) (by first | assumption | (simp only [ms_rw, wr_rw, ne_eq, Nat.reduceEqDiff, not_false_eq_true]; assumption) | (simp only [ms_rw, wr_rw, ne_eq, Nat.reduceEqDiff, not_false_eq_true]; rw [hτ]; simp only [ms_rw, wr_rw, ne_eq, Nat.reduceEqDiff, not_false_eq_true])) (by first | assumption | (simp only [ms_rw, wr_rw, ne_eq, Nat.reduceEqDiff, not_false_eq_true]; assumption) | (simp only [ms_rw, wr_rw, ne_eq, Nat.reduceEqDiff, not_false_eq_true]; rw [hτ]; simp only [ms_rw, wr_rw, ne_eq, Nat.reduceEqDiff, not_false_eq_true])) ⟨by omega, by omega⟩ hL ?_
    show V_ _ _ _ _ _ _ [_, _, _] _
    refine V_iastN (pc := 40) dX1_settleShips_40 gg_20 (by omega) (by decide) (by have h1 := ba_255 (L := L) ((i : Int) * 4) hb; have h2 := ba_255 (L := L) ((i : Int) * 4 + 1) hb; unfold fg_; constructor <;> omega) ?_
    refine V_aload_n (pc := 41) dX1_settleShips_41 rfl rfl ?_
    refine V_getr (pc := 42) dX1_settleShips_42 fX1_15 rfl gg_19 rfl ?_
    refine V_iload_n (pc := 45) dX1_settleShips_45 rfl rfl ?_
    refine V_aload_n (pc := 46) dX1_settleShips_46 rfl rfl ?_
    refine V_iload_n (pc := 47) dX1_settleShips_47 rfl rfl ?_
    refine V_iconst (pc := 48) dX1_settleShips_48 ?_
    refine V_iadd (pc := 49) dX1_settleShips_49 ?_
    refine V_callV (pc := 50) (as := [_]) (rest := [_, _]) dX1_settleShips_50 ⟨kX1_74, iX5_figureAt, by decide, by decide⟩ rc_1 rfl rfl (Nat.le_of_ble_eq_true rfl) (Nat.le_of_ble_eq_true rfl) ?_
    refine cu_X5_figureAt_1 (L := L) (b := b) (by first | assumption | (simp only [ms_rw, wr_rw, ne_eq, Nat.reduceEqDiff, not_false_eq_true]; assumption) | (simp only [ms_rw, wr_rw, ne_eq, Nat.reduceEqDiff, not_false_eq_true]; rw [hτ]; simp only [ms_rw, wr_rw, ne_eq, Nat.reduceEqDiff, not_false_eq_true])) (by first | assumption | (simp only [ms_rw, wr_rw, ne_eq, Nat.reduceEqDiff, not_false_eq_true]; assumption) | (simp only [ms_rw, wr_rw, ne_eq, Nat.reduceEqDiff, not_false_eq_true]; rw [hτ]; simp only [ms_rw, wr_rw, ne_eq, Nat.reduceEqDiff, not_false_eq_true])) ⟨by omega, by omega⟩ hL ?_
    show V_ _ _ _ _ _ _ [_, _, _] _
    refine V_iastN (pc := 53) dX1_settleShips_53 gg_21 (by omega) (by decide) (by have h1 := ba_255 (L := L) ((i : Int) * 4 + 2) hb; constructor <;> omega) ?_
    refine V_iinc (pc := 54) dX1_settleShips_54 rfl (by decide) rfl ?_
    show V_ _ _ _ _ _ [_, _, _, _] _ _
    refine V_goto (tgt := 15) (pc := 57) dX1_settleShips_57 (by decide) ?_
    refine V_none (k := 3) ?_
    show V_ _ _ _ _ _ [_, _, _, _] _ _
    exact V_cg (ih (by omega)) (by simp) rfl (by rw [hτ, wr_ms (by decide), wr_s rfl, wr_s rfl])
theorem ct_X1_settleShips {L : Int} {b : Nat → Int} (e1 : σ 1 3 = L) (e2 : σ 2 = b) (e3 : σ 1 1 = 4) (hL : 0 ≤ L ∧ L ≤ 23) (hb : ∀ j, 0 ≤ b j ∧ b j ≤ 255) (h : post none (wr_ (wr_ (ms_ σ 19 0 (it_ 0 L b)) 20 (fun j => fg_ L b ((j : Int) * 4)) (it_ 0 L b).toNat) 21 (fun j => ba_ L b ((j : Int) * 4 + 2) - 48) (it_ 0 L b).toNat)) : V_ l D mX1_settleShips (CM_ D mX1_settleShips post) 0 [some (vr_ 19), some (vr_ 1), none, none] [] σ := by
  have wi := it_rg 0 (b := b) hL.1 (m := 6) (by have := hL.2; simp only [show ((sp_ 0 : Nat) : Int) = 4 from rfl]; omega) (by decide)
  refine V_aload_n (pc := 0) dX1_settleShips_0 rfl rfl ?_
  refine V_aload_n (pc := 1) dX1_settleShips_1 rfl rfl ?_
  refine V_callV (pc := 2) (as := []) (rest := [_]) dX1_settleShips_2 ⟨kX1_55, iX5_items, by decide, by decide⟩ rc_1 rfl rfl (Nat.le_of_ble_eq_true rfl) (Nat.le_of_ble_eq_true rfl) ?_
  refine cu_X5_items_1 e1 e2 e3 hL ?_
  show V_ _ _ _ _ _ _ [_, _] _
  refine V_bipush (pc := 5) dX1_settleShips_5 (by decide) ?_
  refine V_mmin (pc := 7) dX1_settleShips_7 kX1_61 ⟨by decide, Nat.le_of_ble_eq_true rfl⟩ (by first | assumption | decide | omega | exact ba_rg hR | exact b2_rg) (by first | assumption | decide | omega | exact ba_rg hR | exact b2_rg) ?_
  rw [if_neg (by omega)]
  refine V_puti (pc := 10) dX1_settleShips_10 fX1_42 rfl gg_19 rfl pq_1_0 rfl rfl (by first | assumption | decide | omega | exact ba_rg hR | exact b2_rg) ?_
  refine V_iconst (pc := 13) dX1_settleShips_13 ?_
  refine V_istore_n (pc := 14) dX1_settleShips_14 rfl (by decide) rfl ?_
  show V_ _ _ _ _ _ [_, _, _, _] _ _
  exact V_cg (lp_X1_settleShips e1 e2 e3 hL hb h 0 (Nat.zero_le _)) (by simp) rfl (by simp only [wr_0])
theorem lp_X1_settleLines {L : Int} {b : Nat → Int} (e1 : σ 5 3 = L) (e2 : σ 6 = b) (e3 : σ 5 1 = 5) (hL : 0 ≤ L ∧ L ≤ 59) (hb : ∀ j, 0 ≤ b j ∧ b j ≤ 255) (h : post none (wr_ (wr_ (wr_ (ms_ σ 19 7 (it_ 2 L b)) 24 (fun j => ba_ L b ((j : Int) * 5) - 48) (it_ 2 L b).toNat) 25 (fun j => ba_ L b ((j : Int) * 5 + 1) - 97) (it_ 2 L b).toNat) 26 (fun j => fg_ L b ((j : Int) * 5 + 2)) (it_ 2 L b).toNat)) : ∀ i : Nat, i ≤ (it_ 2 L b).toNat → V_ l D mX1_settleLines (CM_ D mX1_settleLines post) 15 [some (vr_ 19), some (vr_ 5), some (vi_ (i : Int)), none] [] (wr_ (wr_ (wr_ (ms_ σ 19 7 (it_ 2 L b)) 24 (fun j => ba_ L b ((j : Int) * 5) - 48) i) 25 (fun j => ba_ L b ((j : Int) * 5 + 1) - 97) i) 26 (fun j => fg_ L b ((j : Int) * 5 + 2)) i) := by
  have wi := it_rg 2 (b := b) hL.1 (m := 12) (by have := hL.2; simp only [show ((sp_ 2 : Nat) : Int) = 5 from rfl]; omega) (by decide)
  refine up_ _ (fun i hi ih => ?_)
  have hn : ((it_ 2 L b).toNat : Int) = it_ 2 L b := Int.toNat_of_nonneg wi.1
  obtain ⟨τ, hτ⟩ : ∃ τ, τ = wr_ (wr_ (wr_ (ms_ σ 19 7 (it_ 2 L b)) 24 (fun j => ba_ L b ((j : Int) * 5) - 48) i) 25 (fun j => ba_ L b ((j : Int) * 5 + 1) - 97) i) 26 (fun j => fg_ L b ((j : Int) * 5 + 2)) i := ⟨_, rfl⟩
  rw [← hτ]
  have q1 : τ 5 3 = L := by rw [hτ]; simp only [ms_rw, wr_rw, ne_eq, Nat.reduceEqDiff, not_false_eq_true]; exact e1
  have q2 : τ 6 = b := by rw [hτ]; simp only [ms_rw, wr_rw, ne_eq, Nat.reduceEqDiff, not_false_eq_true]; exact e2
  have q3 : τ 5 1 = 5 := by rw [hτ]; simp only [ms_rw, wr_rw, ne_eq, Nat.reduceEqDiff, not_false_eq_true]; exact e3
  have q4 : τ 19 7 = it_ 2 L b := by rw [hτ]; simp only [wr_rw, ne_eq, Nat.reduceEqDiff, not_false_eq_true]; exact ms_eq
  refine V_iload_n (pc := 15) dX1_settleLines_15 rfl rfl ?_
  refine V_aload_n (pc := 16) dX1_settleLines_16 rfl rfl ?_
  refine V_geti (pc := 17) dX1_settleLines_17 fX1_49 rfl gg_19 rfl (fun r17 => ?_)
  rw [q4]
  refine V_icmp_ge (tgt := 76) (pc := 20) dX1_settleLines_20 (by decide) (by first | assumption | decide | omega | exact ba_rg hR | exact b2_rg) (by first | assumption | decide | omega | exact ba_rg hR | exact b2_rg) (fun h20 => ?_) (fun h20 => ?_)
  · skip
    refine V_return (pc := 76) dX1_settleLines_76 rfl (fun hR => ?_)
    rw [show i = (it_ 2 L b).toNat by omega] at hτ
    rw [hτ]
    exact h
  · skip
    refine V_iload_n (pc := 23) dX1_settleLines_23 rfl rfl ?_
    refine V_aload_n (pc := 24) dX1_settleLines_24 rfl rfl ?_
    refine V_geti (pc := 25) dX1_settleLines_25 fX1_67 rfl gg_5 rfl (fun r25 => ?_)
    rw [q3]
    refine V_imul (pc := 28) dX1_settleLines_28 ?_
    refine V_istore_n (pc := 29) dX1_settleLines_29 rfl (by decide) rfl ?_
    show V_ _ _ _ _ _ [_, _, _, _] _ _
    refine V_aload_n (pc := 30) dX1_settleLines_30 rfl rfl ?_
    refine V_getr (pc := 31) dX1_settleLines_31 fX1_24 rfl gg_19 rfl ?_
    refine V_iload_n (pc := 34) dX1_settleLines_34 rfl rfl ?_
    refine V_aload_n (pc := 35) dX1_settleLines_35 rfl rfl ?_
    refine V_iload_n (pc := 36) dX1_settleLines_36 rfl rfl ?_
    refine V_callV (pc := 37) (as := [_]) (rest := [_, _]) dX1_settleLines_37 ⟨kX1_74, iX5_figureAt, by decide, by decide⟩ rc_5 rfl rfl (Nat.le_of_ble_eq_true rfl) (Nat.le_of_ble_eq_true rfl) ?_
    refine cu_X5_figureAt_5 (L := L) (b := b) (by first | assumption | (simp only [ms_rw, wr_rw, ne_eq, Nat.reduceEqDiff, not_false_eq_true]; assumption) | (simp only [ms_rw, wr_rw, ne_eq, Nat.reduceEqDiff, not_false_eq_true]; rw [hτ]; simp only [ms_rw, wr_rw, ne_eq, Nat.reduceEqDiff, not_false_eq_true])) (by first | assumption | (simp only [ms_rw, wr_rw, ne_eq, Nat.reduceEqDiff, not_false_eq_true]; assumption) | (simp only [ms_rw, wr_rw, ne_eq, Nat.reduceEqDiff, not_false_eq_true]; rw [hτ]; simp only [ms_rw, wr_rw, ne_eq, Nat.reduceEqDiff, not_false_eq_true])) ⟨by omega, by omega⟩ hL ?_
    show V_ _ _ _ _ _ _ [_, _, _] _
    refine V_iastN (pc := 40) dX1_settleLines_40 gg_24 (by omega) (by decide) (by have h1 := ba_255 (L := L) ((i : Int) * 5) hb; constructor <;> omega) ?_
    refine V_aload_n (pc := 41) dX1_settleLines_41 rfl rfl ?_
    refine V_getr (pc := 42) dX1_settleLines_42 fX1_27 rfl gg_19 rfl ?_
    refine V_iload_n (pc := 45) dX1_settleLines_45 rfl rfl ?_
    refine V_aload_n (pc := 46) dX1_settleLines_46 rfl rfl ?_
    refine V_iload_n (pc := 47) dX1_settleLines_47 rfl rfl ?_
    refine V_iconst (pc := 48) dX1_settleLines_48 ?_
    refine V_iadd (pc := 49) dX1_settleLines_49 ?_
    refine V_callV (pc := 50) (as := [_]) (rest := [_, _]) dX1_settleLines_50 ⟨kX1_77, iX5_byteAt, by decide, by decide⟩ rc_5 rfl rfl (Nat.le_of_ble_eq_true rfl) (Nat.le_of_ble_eq_true rfl) ?_
    refine cu_X5_byteAt_5 (L := L) (b := b) (by first | assumption | (simp only [ms_rw, wr_rw, ne_eq, Nat.reduceEqDiff, not_false_eq_true]; assumption) | (simp only [ms_rw, wr_rw, ne_eq, Nat.reduceEqDiff, not_false_eq_true]; rw [hτ]; simp only [ms_rw, wr_rw, ne_eq, Nat.reduceEqDiff, not_false_eq_true])) (by first | assumption | (simp only [ms_rw, wr_rw, ne_eq, Nat.reduceEqDiff, not_false_eq_true]; assumption) | (simp only [ms_rw, wr_rw, ne_eq, Nat.reduceEqDiff, not_false_eq_true]; rw [hτ]; simp only [ms_rw, wr_rw, ne_eq, Nat.reduceEqDiff, not_false_eq_true])) ⟨by omega, by omega⟩ hL (fun hR50 g50 => ?_)
    have h1 := ba_255 (L := L) ((i : Int) * 5 + 1) hb
    show V_ _ _ _ _ _ _ [_, _, _] _
    refine V_bipush (pc := 53) dX1_settleLines_53 (by decide) ?_
    refine V_isub (pc := 55) dX1_settleLines_55 ?_
    refine V_iastN (pc := 56) dX1_settleLines_56 gg_25 (by omega) (by decide) (by constructor <;> omega) ?_
    refine V_aload_n (pc := 57) dX1_settleLines_57 rfl rfl ?_
    refine V_getr (pc := 58) dX1_settleLines_58 fX1_30 rfl gg_19 rfl ?_
    refine V_iload_n (pc := 61) dX1_settleLines_61 rfl rfl ?_
    refine V_aload_n (pc := 62) dX1_settleLines_62 rfl rfl ?_
    refine V_iload_n (pc := 63) dX1_settleLines_63 rfl rfl ?_
    refine V_iconst (pc := 64) dX1_settleLines_64 ?_
    refine V_iadd (pc := 65) dX1_settleLines_65 ?_
    refine V_callV (pc := 66) (as := [_]) (rest := [_, _]) dX1_settleLines_66 ⟨kX1_70, iX5_figuresAt, by decide, by decide⟩ rc_5 rfl rfl (Nat.le_of_ble_eq_true rfl) (Nat.le_of_ble_eq_true rfl) ?_
    refine cu_X5_figuresAt_5 (L := L) (b := b) (by first | assumption | (simp only [ms_rw, wr_rw, ne_eq, Nat.reduceEqDiff, not_false_eq_true]; assumption) | (simp only [ms_rw, wr_rw, ne_eq, Nat.reduceEqDiff, not_false_eq_true]; rw [hτ]; simp only [ms_rw, wr_rw, ne_eq, Nat.reduceEqDiff, not_false_eq_true])) (by first | assumption | (simp only [ms_rw, wr_rw, ne_eq, Nat.reduceEqDiff, not_false_eq_true]; assumption) | (simp only [ms_rw, wr_rw, ne_eq, Nat.reduceEqDiff, not_false_eq_true]; rw [hτ]; simp only [ms_rw, wr_rw, ne_eq, Nat.reduceEqDiff, not_false_eq_true])) ⟨by omega, by omega⟩ hL ?_
    show V_ _ _ _ _ _ _ [_, _, _] _
    refine V_iastN (pc := 69) dX1_settleLines_69 gg_26 (by omega) (by decide) (by have h1 := ba_255 (L := L) ((i : Int) * 5 + 2) hb; have h2 := ba_255 (L := L) ((i : Int) * 5 + 2 + 1) hb; unfold fg_; constructor <;> omega) ?_
    refine V_iinc (pc := 70) dX1_settleLines_70 rfl (by decide) rfl ?_
    show V_ _ _ _ _ _ [_, _, _, _] _ _
    refine V_goto (tgt := 15) (pc := 73) dX1_settleLines_73 (by decide) ?_
    refine V_none (k := 3) ?_
    show V_ _ _ _ _ _ [_, _, _, _] _ _
    exact V_cg (ih (by omega)) (by simp) rfl (by rw [hτ, wr_ms (by decide), wr_ms (by decide), wr_s rfl, wr_ms (by decide), wr_s rfl, wr_s rfl])
theorem ct_X1_settleLines {L : Int} {b : Nat → Int} (e1 : σ 5 3 = L) (e2 : σ 6 = b) (e3 : σ 5 1 = 5) (hL : 0 ≤ L ∧ L ≤ 59) (hb : ∀ j, 0 ≤ b j ∧ b j ≤ 255) (h : post none (wr_ (wr_ (wr_ (ms_ σ 19 7 (it_ 2 L b)) 24 (fun j => ba_ L b ((j : Int) * 5) - 48) (it_ 2 L b).toNat) 25 (fun j => ba_ L b ((j : Int) * 5 + 1) - 97) (it_ 2 L b).toNat) 26 (fun j => fg_ L b ((j : Int) * 5 + 2)) (it_ 2 L b).toNat)) : V_ l D mX1_settleLines (CM_ D mX1_settleLines post) 0 [some (vr_ 19), some (vr_ 5), none, none] [] σ := by
  have wi := it_rg 2 (b := b) hL.1 (m := 12) (by have := hL.2; simp only [show ((sp_ 2 : Nat) : Int) = 5 from rfl]; omega) (by decide)
  refine V_aload_n (pc := 0) dX1_settleLines_0 rfl rfl ?_
  refine V_aload_n (pc := 1) dX1_settleLines_1 rfl rfl ?_
  refine V_callV (pc := 2) (as := []) (rest := [_]) dX1_settleLines_2 ⟨kX1_55, iX5_items, by decide, by decide⟩ rc_5 rfl rfl (Nat.le_of_ble_eq_true rfl) (Nat.le_of_ble_eq_true rfl) ?_
  refine cu_X5_items_5 e1 e2 e3 hL ?_
  show V_ _ _ _ _ _ _ [_, _] _
  refine V_bipush (pc := 5) dX1_settleLines_5 (by decide) ?_
  refine V_mmin (pc := 7) dX1_settleLines_7 kX1_61 ⟨by decide, Nat.le_of_ble_eq_true rfl⟩ (by first | assumption | decide | omega | exact ba_rg hR | exact b2_rg) (by first | assumption | decide | omega | exact ba_rg hR | exact b2_rg) ?_
  rw [if_neg (by omega)]
  refine V_puti (pc := 10) dX1_settleLines_10 fX1_49 rfl gg_19 rfl pq_1_7 rfl rfl (by first | assumption | decide | omega | exact ba_rg hR | exact b2_rg) ?_
  refine V_iconst (pc := 13) dX1_settleLines_13 ?_
  refine V_istore_n (pc := 14) dX1_settleLines_14 rfl (by decide) rfl ?_
  show V_ _ _ _ _ _ [_, _, _, _] _ _
  exact V_cg (lp_X1_settleLines e1 e2 e3 hL hb h 0 (Nat.zero_le _)) (by simp) rfl (by simp only [wr_0])
theorem lp_X1_settleNames {L : Int} {b : Nat → Int} (e1 : σ 3 3 = L) (e2 : σ 4 = b) (e3 : σ 3 1 = 5) (hL : 0 ≤ L ∧ L ≤ 39) (hb : ∀ j, 0 ≤ b j ∧ b j ≤ 255) (h : post none (wr_ (wr_ (ms_ (ms_ σ 19 3 (it_ 1 L b)) 19 6 (bs_ (fun j => decide (ba_ L b ((j : Int) * 5 + 2) = 100)) (it_ 1 L b).toNat)) 22 (fun j => fg_ L b ((j : Int) * 5)) (it_ 1 L b).toNat) 23 (fun j => if ba_ L b ((j : Int) * 5 + 3) = 46 then -1 else ba_ L b ((j : Int) * 5 + 3) - 97) (it_ 1 L b).toNat)) : ∀ i : Nat, i ≤ (it_ 1 L b).toNat → V_ l D mX1_settleNames (CM_ D mX1_settleNames post) 20 [some (vr_ 19), some (vr_ 3), some (vi_ (i : Int)), none, none] [] (wr_ (wr_ (ms_ (ms_ σ 19 3 (it_ 1 L b)) 19 6 (bs_ (fun j => decide (ba_ L b ((j : Int) * 5 + 2) = 100)) i)) 22 (fun j => fg_ L b ((j : Int) * 5)) i) 23 (fun j => if ba_ L b ((j : Int) * 5 + 3) = 46 then -1 else ba_ L b ((j : Int) * 5 + 3) - 97) i) := by
  have wi := it_rg 1 (b := b) hL.1 (m := 8) (by have := hL.2; simp only [show ((sp_ 1 : Nat) : Int) = 5 from rfl]; omega) (by decide)
  refine up_ _ (fun i hi ih => ?_)
  have hn : ((it_ 1 L b).toNat : Int) = it_ 1 L b := Int.toNat_of_nonneg wi.1
  obtain ⟨τ, hτ⟩ : ∃ τ, τ = wr_ (wr_ (ms_ (ms_ σ 19 3 (it_ 1 L b)) 19 6 (bs_ (fun j => decide (ba_ L b ((j : Int) * 5 + 2) = 100)) i)) 22 (fun j => fg_ L b ((j : Int) * 5)) i) 23 (fun j => if ba_ L b ((j : Int) * 5 + 3) = 46 then -1 else ba_ L b ((j : Int) * 5 + 3) - 97) i := ⟨_, rfl⟩
  rw [← hτ]
  have q1 : τ 3 3 = L := by rw [hτ]; simp only [ms_rw, wr_rw, ne_eq, Nat.reduceEqDiff, not_false_eq_true]; exact e1
  have q2 : τ 4 = b := by rw [hτ]; simp only [ms_rw, wr_rw, ne_eq, Nat.reduceEqDiff, not_false_eq_true]; exact e2
  have q3 : τ 3 1 = 5 := by rw [hτ]; simp only [ms_rw, wr_rw, ne_eq, Nat.reduceEqDiff, not_false_eq_true]; exact e3
  have q4 : τ 19 3 = it_ 1 L b := by rw [hτ]; simp only [wr_rw, ne_eq, Nat.reduceEqDiff, not_false_eq_true]; rw [ms_ne (by decide)]; exact ms_eq
  have q5 : τ 19 6 = bs_ (fun j => decide (ba_ L b ((j : Int) * 5 + 2) = 100)) i := by rw [hτ]; simp only [wr_rw, ne_eq, Nat.reduceEqDiff, not_false_eq_true]; exact ms_eq
  have q6 := bs_rg (fun j => decide (ba_ L b ((j : Int) * 5 + 2) = 100)) i
  have q7 : ((2 ^ i : Nat) : Int) ≤ 256 := by
    have : 2 ^ i ≤ 2 ^ 8 := Nat.pow_le_pow_right (by decide) (by omega)
    omega
  refine V_iload_n (pc := 20) dX1_settleNames_20 rfl rfl ?_
  refine V_aload_n (pc := 21) dX1_settleNames_21 rfl rfl ?_
  refine V_geti (pc := 22) dX1_settleNames_22 fX1_46 rfl gg_19 rfl (fun r22 => ?_)
  rw [q4]
  refine V_icmp_ge (tgt := 111) (pc := 25) dX1_settleNames_25 (by decide) (by first | assumption | decide | omega | exact ba_rg hR | exact b2_rg) (by first | assumption | decide | omega | exact ba_rg hR | exact b2_rg) (fun h25 => ?_) (fun h25 => ?_)
  · skip
    refine V_return (pc := 111) dX1_settleNames_111 rfl (fun hR => ?_)
    rw [show i = (it_ 1 L b).toNat by omega] at hτ
    rw [hτ]
    exact h
  · skip
    refine V_iload_n (pc := 28) dX1_settleNames_28 rfl rfl ?_
    refine V_aload_n (pc := 29) dX1_settleNames_29 rfl rfl ?_
    refine V_geti (pc := 30) dX1_settleNames_30 fX1_67 rfl gg_3 rfl (fun r30 => ?_)
    rw [q3]
    refine V_imul (pc := 33) dX1_settleNames_33 ?_
    refine V_istore_n (pc := 34) dX1_settleNames_34 rfl (by decide) rfl ?_
    show V_ _ _ _ _ _ [_, _, _, _, _] _ _
    refine V_aload_n (pc := 35) dX1_settleNames_35 rfl rfl ?_
    refine V_getr (pc := 36) dX1_settleNames_36 fX1_18 rfl gg_19 rfl ?_
    refine V_iload_n (pc := 39) dX1_settleNames_39 rfl rfl ?_
    refine V_aload_n (pc := 40) dX1_settleNames_40 rfl rfl ?_
    refine V_iload_n (pc := 41) dX1_settleNames_41 rfl rfl ?_
    refine V_callV (pc := 42) (as := [_]) (rest := [_, _]) dX1_settleNames_42 ⟨kX1_70, iX5_figuresAt, by decide, by decide⟩ rc_3 rfl rfl (Nat.le_of_ble_eq_true rfl) (Nat.le_of_ble_eq_true rfl) ?_
    refine cu_X5_figuresAt_3 (L := L) (b := b) (by first | assumption | (simp only [ms_rw, wr_rw, ne_eq, Nat.reduceEqDiff, not_false_eq_true]; assumption) | (simp only [ms_rw, wr_rw, ne_eq, Nat.reduceEqDiff, not_false_eq_true]; rw [hτ]; simp only [ms_rw, wr_rw, ne_eq, Nat.reduceEqDiff, not_false_eq_true])) (by first | assumption | (simp only [ms_rw, wr_rw, ne_eq, Nat.reduceEqDiff, not_false_eq_true]; assumption) | (simp only [ms_rw, wr_rw, ne_eq, Nat.reduceEqDiff, not_false_eq_true]; rw [hτ]; simp only [ms_rw, wr_rw, ne_eq, Nat.reduceEqDiff, not_false_eq_true])) ⟨by omega, by omega⟩ hL ?_
    show V_ _ _ _ _ _ _ [_, _, _] _
    refine V_iastN (pc := 45) dX1_settleNames_45 gg_22 (by omega) (by decide) (by have h1 := ba_255 (L := L) ((i : Int) * 5) hb; have h2 := ba_255 (L := L) ((i : Int) * 5 + 1) hb; unfold fg_; constructor <;> omega) ?_
    refine V_aload_n (pc := 46) dX1_settleNames_46 rfl rfl ?_
    refine V_dup (pc := 47) dX1_settleNames_47 rfl ?_
    refine V_geti (pc := 48) dX1_settleNames_48 fX1_52 rfl gg_19 rfl (fun r48 => ?_)
    rw [show ms_ τ 22 i (fg_ L b ((i : Int) * 5)) 19 6 = τ 19 6 from by rw [ms_rw (by decide)], q5]
    refine V_aload_n (pc := 51) dX1_settleNames_51 rfl rfl ?_
    refine V_iload_n (pc := 52) dX1_settleNames_52 rfl rfl ?_
    refine V_iconst (pc := 53) dX1_settleNames_53 ?_
    refine V_iadd (pc := 54) dX1_settleNames_54 ?_
    refine V_callV (pc := 55) (as := [_]) (rest := [_, _]) dX1_settleNames_55 ⟨kX1_77, iX5_byteAt, by decide, by decide⟩ rc_3 rfl rfl (Nat.le_of_ble_eq_true rfl) (Nat.le_of_ble_eq_true rfl) ?_
    refine cu_X5_byteAt_3 (L := L) (b := b) (by first | assumption | (simp only [ms_rw, wr_rw, ne_eq, Nat.reduceEqDiff, not_false_eq_true]; assumption) | (simp only [ms_rw, wr_rw, ne_eq, Nat.reduceEqDiff, not_false_eq_true]; rw [hτ]; simp only [ms_rw, wr_rw, ne_eq, Nat.reduceEqDiff, not_false_eq_true])) (by first | assumption | (simp only [ms_rw, wr_rw, ne_eq, Nat.reduceEqDiff, not_false_eq_true]; assumption) | (simp only [ms_rw, wr_rw, ne_eq, Nat.reduceEqDiff, not_false_eq_true]; rw [hτ]; simp only [ms_rw, wr_rw, ne_eq, Nat.reduceEqDiff, not_false_eq_true])) ⟨by omega, by omega⟩ hL (fun hR55 g55 => ?_)
    show V_ _ _ _ _ _ _ [_, _, _] _
    refine V_bipush (pc := 58) dX1_settleNames_58 (by decide) ?_
    refine V_icmp_ne (tgt := 69) (pc := 60) dX1_settleNames_60 (by decide) (by first | assumption | decide | omega | exact ba_rg hR | exact b2_rg) (by first | assumption | decide | omega | exact ba_rg hR | exact b2_rg) (fun h60 => ?_) (fun h60 => ?_)
    · skip
      refine V_iconst (pc := 69) dX1_settleNames_69 ?_
      refine V_ior (pc := 70) dX1_settleNames_70 ?_
      have hd : Rg_ (bs_ (fun j => decide (ba_ L b ((j : Int) * 5 + 2) = 100)) (i + 1)) ∧ bs_ (fun j => decide (ba_ L b ((j : Int) * 5 + 2) = 100)) (i + 1) = ior_ (bs_ (fun j => decide (ba_ L b ((j : Int) * 5 + 2) = 100)) i) 0 := by
        rw [or_0 (by omega)]; have e : bs_ (fun j => decide (ba_ L b ((j : Int) * 5 + 2) = 100)) (i + 1) = bs_ (fun j => decide (ba_ L b ((j : Int) * 5 + 2) = 100)) i := by show (if _ then _ else _) = _; rw [if_neg (by simp only [decide_eq_true_eq]; exact h60)]
        rw [e]; exact ⟨by constructor <;> omega, rfl⟩
      rw [← hd.2]
      refine V_puti (pc := 71) dX1_settleNames_71 fX1_52 rfl gg_19 rfl pq_1_6 rfl rfl hd.1 ?_
      refine V_aload_n (pc := 74) dX1_settleNames_74 rfl rfl ?_
      refine V_iload_n (pc := 75) dX1_settleNames_75 rfl rfl ?_
      refine V_iconst (pc := 76) dX1_settleNames_76 ?_
      refine V_iadd (pc := 77) dX1_settleNames_77 ?_
      refine V_callV (pc := 78) (as := [_]) (rest := []) dX1_settleNames_78 ⟨kX1_77, iX5_byteAt, by decide, by decide⟩ rc_3 rfl rfl (Nat.le_of_ble_eq_true rfl) (Nat.le_of_ble_eq_true rfl) ?_
      refine cu_X5_byteAt_3 (L := L) (b := b) (by first | assumption | (simp only [ms_rw, wr_rw, ne_eq, Nat.reduceEqDiff, not_false_eq_true]; assumption) | (simp only [ms_rw, wr_rw, ne_eq, Nat.reduceEqDiff, not_false_eq_true]; rw [hτ]; simp only [ms_rw, wr_rw, ne_eq, Nat.reduceEqDiff, not_false_eq_true])) (by first | assumption | (simp only [ms_rw, wr_rw, ne_eq, Nat.reduceEqDiff, not_false_eq_true]; assumption) | (simp only [ms_rw, wr_rw, ne_eq, Nat.reduceEqDiff, not_false_eq_true]; rw [hτ]; simp only [ms_rw, wr_rw, ne_eq, Nat.reduceEqDiff, not_false_eq_true])) ⟨by omega, by omega⟩ hL (fun hR78 g78 => ?_)
      have h3 := ba_255 (L := L) ((i : Int) * 5 + 3) hb
      show V_ _ _ _ _ _ _ [_] _
      refine V_istore (pc := 81) dX1_settleNames_81 (by decide) rfl ?_
      show V_ _ _ _ _ _ [_, _, _, _, _] _ _
      refine V_aload_n (pc := 83) dX1_settleNames_83 rfl rfl ?_
      refine V_getr (pc := 84) dX1_settleNames_84 fX1_21 rfl gg_19 rfl ?_
      refine V_iload_n (pc := 87) dX1_settleNames_87 rfl rfl ?_
      refine V_iload (pc := 88) dX1_settleNames_88 rfl ?_
      refine V_bipush (pc := 90) dX1_settleNames_90 (by decide) ?_
      refine V_icmp_ne (tgt := 99) (pc := 92) dX1_settleNames_92 (by decide) (by first | assumption | decide | omega | exact ba_rg hR | exact b2_rg) (by first | assumption | decide | omega | exact ba_rg hR | exact b2_rg) (fun h92 => ?_) (fun h92 => ?_)
      · skip
        refine V_iload (pc := 99) dX1_settleNames_99 rfl ?_
        refine V_bipush (pc := 101) dX1_settleNames_101 (by decide) ?_
        refine V_isub (pc := 103) dX1_settleNames_103 ?_
        refine V_iastN (pc := 104) dX1_settleNames_104 gg_23 (by omega) (by decide) (by constructor <;> omega) ?_
        refine V_iinc (pc := 105) dX1_settleNames_105 rfl (by decide) rfl ?_
        show V_ _ _ _ _ _ [_, _, _, _, _] _ _
        refine V_goto (tgt := 20) (pc := 108) dX1_settleNames_108 (by decide) ?_
        refine V_none (k := 3) ?_
        show V_ _ _ _ _ _ [_, _, _, _, _] _ _
        refine V_none (k := 4) ?_
        show V_ _ _ _ _ _ [_, _, _, _, _] _ _
        exact V_cg (ih (by omega)) (by simp) rfl (by rw [hτ, wr_ms (by decide), wr_s rfl, wr_ms (by decide), wr_s (by rw [if_neg (by assumption)]), wr_ms (by decide), ms_ms])
      · skip
        refine V_iconst (pc := 95) dX1_settleNames_95 ?_
        refine V_goto (tgt := 104) (pc := 96) dX1_settleNames_96 (by decide) ?_
        refine V_iastN (pc := 104) dX1_settleNames_104 gg_23 (by omega) (by decide) (by constructor <;> omega) ?_
        refine V_iinc (pc := 105) dX1_settleNames_105 rfl (by decide) rfl ?_
        show V_ _ _ _ _ _ [_, _, _, _, _] _ _
        refine V_goto (tgt := 20) (pc := 108) dX1_settleNames_108 (by decide) ?_
        refine V_none (k := 3) ?_
        show V_ _ _ _ _ _ [_, _, _, _, _] _ _
        refine V_none (k := 4) ?_
        show V_ _ _ _ _ _ [_, _, _, _, _] _ _
        exact V_cg (ih (by omega)) (by simp) rfl (by rw [hτ, wr_ms (by decide), wr_s rfl, wr_ms (by decide), wr_s (by rw [if_pos (by assumption)]), wr_ms (by decide), ms_ms])
    · skip
      refine V_iconst (pc := 63) dX1_settleNames_63 ?_
      refine V_iload_n (pc := 64) dX1_settleNames_64 rfl rfl ?_
      refine V_ishl (pc := 65) dX1_settleNames_65 ?_
      refine V_goto (tgt := 70) (pc := 66) dX1_settleNames_66 (by decide) ?_
      refine V_ior (pc := 70) dX1_settleNames_70 ?_
      have hd : Rg_ (bs_ (fun j => decide (ba_ L b ((j : Int) * 5 + 2) = 100)) (i + 1)) ∧ bs_ (fun j => decide (ba_ L b ((j : Int) * 5 + 2) = 100)) (i + 1) = ior_ (bs_ (fun j => decide (ba_ L b ((j : Int) * 5 + 2) = 100)) i) (ishl_ 1 (i : Int)) := by
        rw [bit_or (by omega) (by omega)]; have e : bs_ (fun j => decide (ba_ L b ((j : Int) * 5 + 2) = 100)) (i + 1) = so_ (bs_ (fun j => decide (ba_ L b ((j : Int) * 5 + 2) = 100)) i) i := by show (if _ then _ else _) = _; rw [if_pos (by simp only [decide_eq_true_eq]; exact h60)]
        rw [e]; have := so_rg (m := i + 1) (s := bs_ (fun j => decide (ba_ L b ((j : Int) * 5 + 2) = 100)) i) (k := (i : Int)) ⟨q6.1, by have : ((2 ^ i : Nat) : Int) < ((2 ^ (i + 1) : Nat) : Int) := by { have : 2 ^ i < 2 ^ (i + 1) := Nat.pow_lt_pow_of_lt (by decide) (by omega); omega }; omega⟩ ⟨by omega, by omega⟩; have z8 : ((2 ^ (i + 1) : Nat) : Int) ≤ 256 := by { have : 2 ^ (i + 1) ≤ 2 ^ 8 := Nat.pow_le_pow_right (by decide) (by omega); omega }
        exact ⟨by constructor <;> omega, rfl⟩
      rw [← hd.2]
      refine V_puti (pc := 71) dX1_settleNames_71 fX1_52 rfl gg_19 rfl pq_1_6 rfl rfl hd.1 ?_
      refine V_aload_n (pc := 74) dX1_settleNames_74 rfl rfl ?_
      refine V_iload_n (pc := 75) dX1_settleNames_75 rfl rfl ?_
      refine V_iconst (pc := 76) dX1_settleNames_76 ?_
      refine V_iadd (pc := 77) dX1_settleNames_77 ?_
      refine V_callV (pc := 78) (as := [_]) (rest := []) dX1_settleNames_78 ⟨kX1_77, iX5_byteAt, by decide, by decide⟩ rc_3 rfl rfl (Nat.le_of_ble_eq_true rfl) (Nat.le_of_ble_eq_true rfl) ?_
      refine cu_X5_byteAt_3 (L := L) (b := b) (by first | assumption | (simp only [ms_rw, wr_rw, ne_eq, Nat.reduceEqDiff, not_false_eq_true]; assumption) | (simp only [ms_rw, wr_rw, ne_eq, Nat.reduceEqDiff, not_false_eq_true]; rw [hτ]; simp only [ms_rw, wr_rw, ne_eq, Nat.reduceEqDiff, not_false_eq_true])) (by first | assumption | (simp only [ms_rw, wr_rw, ne_eq, Nat.reduceEqDiff, not_false_eq_true]; assumption) | (simp only [ms_rw, wr_rw, ne_eq, Nat.reduceEqDiff, not_false_eq_true]; rw [hτ]; simp only [ms_rw, wr_rw, ne_eq, Nat.reduceEqDiff, not_false_eq_true])) ⟨by omega, by omega⟩ hL (fun hR78 g78 => ?_)
      have h3 := ba_255 (L := L) ((i : Int) * 5 + 3) hb
      show V_ _ _ _ _ _ _ [_] _
      refine V_istore (pc := 81) dX1_settleNames_81 (by decide) rfl ?_
      show V_ _ _ _ _ _ [_, _, _, _, _] _ _
      refine V_aload_n (pc := 83) dX1_settleNames_83 rfl rfl ?_
      refine V_getr (pc := 84) dX1_settleNames_84 fX1_21 rfl gg_19 rfl ?_
      refine V_iload_n (pc := 87) dX1_settleNames_87 rfl rfl ?_
      refine V_iload (pc := 88) dX1_settleNames_88 rfl ?_
      refine V_bipush (pc := 90) dX1_settleNames_90 (by decide) ?_
      refine V_icmp_ne (tgt := 99) (pc := 92) dX1_settleNames_92 (by decide) (by first | assumption | decide | omega | exact ba_rg hR | exact b2_rg) (by first | assumption | decide | omega | exact ba_rg hR | exact b2_rg) (fun h92 => ?_) (fun h92 => ?_)
      · skip
        refine V_iload (pc := 99) dX1_settleNames_99 rfl ?_
        refine V_bipush (pc := 101) dX1_settleNames_101 (by decide) ?_
        refine V_isub (pc := 103) dX1_settleNames_103 ?_
        refine V_iastN (pc := 104) dX1_settleNames_104 gg_23 (by omega) (by decide) (by constructor <;> omega) ?_
        refine V_iinc (pc := 105) dX1_settleNames_105 rfl (by decide) rfl ?_
        show V_ _ _ _ _ _ [_, _, _, _, _] _ _
        refine V_goto (tgt := 20) (pc := 108) dX1_settleNames_108 (by decide) ?_
        refine V_none (k := 3) ?_
        show V_ _ _ _ _ _ [_, _, _, _, _] _ _
        refine V_none (k := 4) ?_
        show V_ _ _ _ _ _ [_, _, _, _, _] _ _
        exact V_cg (ih (by omega)) (by simp) rfl (by rw [hτ, wr_ms (by decide), wr_s rfl, wr_ms (by decide), wr_s (by rw [if_neg (by assumption)]), wr_ms (by decide), ms_ms])
      · skip
        refine V_iconst (pc := 95) dX1_settleNames_95 ?_
        refine V_goto (tgt := 104) (pc := 96) dX1_settleNames_96 (by decide) ?_
        refine V_iastN (pc := 104) dX1_settleNames_104 gg_23 (by omega) (by decide) (by constructor <;> omega) ?_
        refine V_iinc (pc := 105) dX1_settleNames_105 rfl (by decide) rfl ?_
        show V_ _ _ _ _ _ [_, _, _, _, _] _ _
        refine V_goto (tgt := 20) (pc := 108) dX1_settleNames_108 (by decide) ?_
        refine V_none (k := 3) ?_
        show V_ _ _ _ _ _ [_, _, _, _, _] _ _
        refine V_none (k := 4) ?_
        show V_ _ _ _ _ _ [_, _, _, _, _] _ _
        exact V_cg (ih (by omega)) (by simp) rfl (by rw [hτ, wr_ms (by decide), wr_s rfl, wr_ms (by decide), wr_s (by rw [if_pos (by assumption)]), wr_ms (by decide), ms_ms])
theorem ct_X1_settleNames {L : Int} {b : Nat → Int} (e1 : σ 3 3 = L) (e2 : σ 4 = b) (e3 : σ 3 1 = 5) (hL : 0 ≤ L ∧ L ≤ 39) (hb : ∀ j, 0 ≤ b j ∧ b j ≤ 255) (h : post none (wr_ (wr_ (ms_ (ms_ σ 19 3 (it_ 1 L b)) 19 6 (bs_ (fun j => decide (ba_ L b ((j : Int) * 5 + 2) = 100)) (it_ 1 L b).toNat)) 22 (fun j => fg_ L b ((j : Int) * 5)) (it_ 1 L b).toNat) 23 (fun j => if ba_ L b ((j : Int) * 5 + 3) = 46 then -1 else ba_ L b ((j : Int) * 5 + 3) - 97) (it_ 1 L b).toNat)) : V_ l D mX1_settleNames (CM_ D mX1_settleNames post) 0 [some (vr_ 19), some (vr_ 3), none, none, none] [] σ := by
  have wi := it_rg 1 (b := b) hL.1 (m := 8) (by have := hL.2; simp only [show ((sp_ 1 : Nat) : Int) = 5 from rfl]; omega) (by decide)
  refine V_aload_n (pc := 0) dX1_settleNames_0 rfl rfl ?_
  refine V_aload_n (pc := 1) dX1_settleNames_1 rfl rfl ?_
  refine V_callV (pc := 2) (as := []) (rest := [_]) dX1_settleNames_2 ⟨kX1_55, iX5_items, by decide, by decide⟩ rc_3 rfl rfl (Nat.le_of_ble_eq_true rfl) (Nat.le_of_ble_eq_true rfl) ?_
  refine cu_X5_items_3 e1 e2 e3 hL ?_
  show V_ _ _ _ _ _ _ [_, _] _
  refine V_bipush (pc := 5) dX1_settleNames_5 (by decide) ?_
  refine V_mmin (pc := 7) dX1_settleNames_7 kX1_61 ⟨by decide, Nat.le_of_ble_eq_true rfl⟩ (by first | assumption | decide | omega | exact ba_rg hR | exact b2_rg) (by first | assumption | decide | omega | exact ba_rg hR | exact b2_rg) ?_
  rw [if_neg (by omega)]
  refine V_puti (pc := 10) dX1_settleNames_10 fX1_46 rfl gg_19 rfl pq_1_3 rfl rfl (by first | assumption | decide | omega | exact ba_rg hR | exact b2_rg) ?_
  refine V_aload_n (pc := 13) dX1_settleNames_13 rfl rfl ?_
  refine V_iconst (pc := 14) dX1_settleNames_14 ?_
  refine V_puti (pc := 15) dX1_settleNames_15 fX1_52 rfl gg_19 rfl pq_1_6 rfl rfl (by first | assumption | decide | omega | exact ba_rg hR | exact b2_rg) ?_
  refine V_iconst (pc := 18) dX1_settleNames_18 ?_
  refine V_istore_n (pc := 19) dX1_settleNames_19 rfl (by decide) rfl ?_
  show V_ _ _ _ _ _ [_, _, _, _, _] _ _
  exact V_cg (lp_X1_settleNames e1 e2 e3 hL hb h 0 (Nat.zero_le _)) (by simp) rfl (by simp only [wr_0]; simp only [bs_])
end
