/-! ## class DrownedNamesModel: answers from a reckoning, and plans -/
theorem RD_.b1 {v r σ : Mm_} (h : RD_ v r σ) {k : Nat} (hk : (k : Int) < v 3 0) : σ 50 k = r 0 k := h.1 k hk
theorem on_ : ∀ n : Nat, n < 256 → n ≠ 0 → 0 ≤ iand_ (n : Int) ((n : Int) - 1) ∧ iand_ (n : Int) ((n : Int) - 1) < n ∧ pc_ (iand_ (n : Int) ((n : Int) - 1)) + 1 = pc_ (n : Int) := by decide +kernel
theorem HM_.vs {v σ : Mm_} {x : Int} (h : HM_ v σ) : HM_ (vs_ v x) (ms_ σ 38 12 x) := by
  unfold HM_ vs_ at *
  simp only [ms_rw, ne_eq, Nat.reduceEqDiff, not_false_eq_true, ms_eq]
  exact ⟨h.1, h.2.1, h.2.2.1, h.2.2.2.1, trivial⟩
theorem hs_0 {v : Mm_} : ∀ n, hs_ v 0 n = 0 := by
  intro n
  unfold hs_
  induction n with
  | zero => rfl
  | succ n ih =>
    show sm_ _ n + (if bt_ 0 (n : Int) = true then v 4 n else 0) = 0
    rw [ih, show bt_ 0 (n : Int) = false from by unfold bt_; simp]
    simp
theorem tk_hs {v : Mm_} {s : Nat} : ∀ n, (tk_ v s n).1 ≠ -1 → (tk_ v s n).2 = hs_ v (tk_ v s n).1 (v 3 0).toNat := by
  intro n
  induction n with
  | zero => intro h; exact absurd rfl h
  | succ n ih =>
    unfold tk_
    split
    · exact ih
    · split
      · intro _; rfl
      · exact ih
section
variable {l : Launch} {D : Dt_} {a v u σ r : Mm_} {post : Option Av_ → Mm_ → Prop}
theorem ct_X7_lineOf {i : Nat} {w : Int} (hW : WF_ v) (hM : HM_ v σ) (hi : (i : Int) < v 7 0) (hw : 0 ≤ w ∧ w ≤ 3) (h : post (some (vi_ (if w = 0 then v 8 i else if w = 1 then v 9 i else if w = 2 then v 10 i else du_ v i))) σ) : V_ l D mX7_lineOf (CM_ D mX7_lineOf post) 0 [some (vr_ 38), some (vi_ (i : Int)), some (vi_ w)] [] σ := by
  have ws := hW.s
  have wn := hW.n
  have wl := hW.l
  have wk := hW.k
  have hl := hM.li hi
  have hd := du_rg hW hi
  have wi := hW.li hi
  refine V_iload_n (pc := 0) dX7_lineOf_0 rfl rfl ?_
  refine V_iconst (pc := 1) dX7_lineOf_1 ?_
  refine V_icmp_ge (tgt := 18) (pc := 2) dX7_lineOf_2 (by decide) (by constructor <;> omega) (by constructor <;> omega) (fun h2 => ?_) (fun h2 => ?_)
  · skip
    refine V_aload_n (pc := 18) dX7_lineOf_18 rfl rfl ?_
    refine V_iload_n (pc := 19) dX7_lineOf_19 rfl rfl ?_
    refine V_callV (pc := 20) (as := [_]) (rest := []) dX7_lineOf_20 ⟨kX7_146, iX7_dueOf, by decide, by decide⟩ rc_38 rfl rfl (Nat.le_of_ble_eq_true rfl) (Nat.le_of_ble_eq_true rfl) ?_
    refine ct_X7_dueOf hW hM hi ?_
    rw [if_neg (by omega), if_neg (by omega), if_neg (by omega)] at h
    show V_ _ _ _ _ _ _ [_] _
    refine V_ireturn (pc := 23) dX7_lineOf_23 rfl rfl (fun hR => ?_)
    exact h
  · skip
    refine V_aload_n (pc := 5) dX7_lineOf_5 rfl rfl ?_
    refine V_getr (pc := 6) dX7_lineOf_6 fX7_37 rfl gg_38 rfl ?_
    refine V_iconst (pc := 9) dX7_lineOf_9 ?_
    refine V_iload_n (pc := 10) dX7_lineOf_10 rfl rfl ?_
    refine V_imul (pc := 11) dX7_lineOf_11 ?_
    refine V_iload_n (pc := 12) dX7_lineOf_12 rfl rfl ?_
    refine V_iadd (pc := 13) dX7_lineOf_13 ?_
    refine V_iald (pc := 14) dX7_lineOf_14 gg_48 (by omega) (by decide) (fun r14 => ?_)
    have e14 : σ 48 (3 * (i : Int) + w).toNat = (if w = 0 then v 8 i else if w = 1 then v 9 i else if w = 2 then v 10 i else du_ v i) := by
      by_cases c0 : w = 0
      · rw [if_pos c0, show (3 * (i : Int) + w).toNat = 3 * i by omega]; exact hl.1
      · by_cases c1 : w = 1
        · rw [if_neg c0, if_pos c1, show (3 * (i : Int) + w).toNat = 3 * i + 1 by omega]; exact hl.2.1
        · rw [if_neg c0, if_neg c1, if_pos (by omega), show (3 * (i : Int) + w).toNat = 3 * i + 2 by omega]; exact hl.2.2
    rw [e14] at r14 ⊢
    refine V_goto (tgt := 23) (pc := 15) dX7_lineOf_15 (by decide) ?_
    refine V_ireturn (pc := 23) dX7_lineOf_23 rfl rfl (fun hR => ?_)
    exact h
theorem ct_X7_bearerBy {k w : Int} (hW : WF_ v) (hM : HM_ v σ) (hk : wN_ v k) (hw : 0 ≤ w ∧ w ≤ 2) (h : post (some (vi_ (if w = 0 then bb_ v k else if w = 1 then bs_ (fun j => decide (bb_ v (j : Int) = k)) (v 3 0).toNat else if bb_ v k = -1 then 1 else 0))) σ) : V_ l D mX7_bearerBy (CM_ D mX7_bearerBy post) 0 [some (vr_ 38), some (vi_ k), some (vi_ w)] [] σ := by
  have ws := hW.s
  have wn := hW.n
  have wl := hW.l
  have wk := hW.k
  have hb := bb_rg hk
  refine V_iload_n (pc := 0) dX7_bearerBy_0 rfl rfl ?_
  refine V_if_ne (tgt := 12) (pc := 1) dX7_bearerBy_1 (by decide) (by constructor <;> omega) (fun h1 => ?_) (fun h1 => ?_)
  · skip
    refine V_iload_n (pc := 12) dX7_bearerBy_12 rfl rfl ?_
    refine V_iconst (pc := 13) dX7_bearerBy_13 ?_
    refine V_icmp_ne (tgt := 25) (pc := 14) dX7_bearerBy_14 (by decide) (by constructor <;> omega) (by constructor <;> omega) (fun h14 => ?_) (fun h14 => ?_)
    · skip
      refine V_aload_n (pc := 25) dX7_bearerBy_25 rfl rfl ?_
      refine V_iload_n (pc := 26) dX7_bearerBy_26 rfl rfl ?_
      refine V_callV (pc := 27) (as := [_]) (rest := []) dX7_bearerBy_27 ⟨kX7_152, iX7_bearerOf, by decide, by decide⟩ rc_38 rfl rfl (Nat.le_of_ble_eq_true rfl) (Nat.le_of_ble_eq_true rfl) ?_
      refine ct_X7_bearerOf hW hM hk ?_
      show V_ _ _ _ _ _ _ [_] _
      refine V_iconst (pc := 30) dX7_bearerBy_30 ?_
      refine V_icmp_ne (tgt := 38) (pc := 31) dX7_bearerBy_31 (by decide) (by constructor <;> omega) (by constructor <;> omega) (fun h31 => ?_) (fun h31 => ?_)
      · skip
        refine V_iconst (pc := 38) dX7_bearerBy_38 ?_
        refine V_ireturn (pc := 39) dX7_bearerBy_39 rfl rfl (fun hR => ?_)
        first | (rw [if_pos (by omega)] at h; exact h) | (rw [if_neg (by omega), if_pos (by omega)] at h; exact h) | (rw [if_neg (by omega), if_neg (by omega), if_pos (by omega)] at h; exact h) | (rw [if_neg (by omega), if_neg (by omega), if_neg (by omega)] at h; exact h)
      · skip
        refine V_iconst (pc := 34) dX7_bearerBy_34 ?_
        refine V_goto (tgt := 39) (pc := 35) dX7_bearerBy_35 (by decide) ?_
        refine V_ireturn (pc := 39) dX7_bearerBy_39 rfl rfl (fun hR => ?_)
        first | (rw [if_pos (by omega)] at h; exact h) | (rw [if_neg (by omega), if_pos (by omega)] at h; exact h) | (rw [if_neg (by omega), if_neg (by omega), if_pos (by omega)] at h; exact h) | (rw [if_neg (by omega), if_neg (by omega), if_neg (by omega)] at h; exact h)
    · skip
      refine V_aload_n (pc := 17) dX7_bearerBy_17 rfl rfl ?_
      refine V_iload_n (pc := 18) dX7_bearerBy_18 rfl rfl ?_
      refine V_callV (pc := 19) (as := [_]) (rest := []) dX7_bearerBy_19 ⟨kX7_155, iX7_bearersOf, by decide, by decide⟩ rc_38 rfl rfl (Nat.le_of_ble_eq_true rfl) (Nat.le_of_ble_eq_true rfl) ?_
      refine ct_X7_bearersOf hW hM (by constructor <;> omega) ?_
      show V_ _ _ _ _ _ _ [_] _
      refine V_goto (tgt := 39) (pc := 22) dX7_bearerBy_22 (by decide) ?_
      refine V_ireturn (pc := 39) dX7_bearerBy_39 rfl rfl (fun hR => ?_)
      first | (rw [if_pos (by omega)] at h; exact h) | (rw [if_neg (by omega), if_pos (by omega)] at h; exact h) | (rw [if_neg (by omega), if_neg (by omega), if_pos (by omega)] at h; exact h) | (rw [if_neg (by omega), if_neg (by omega), if_neg (by omega)] at h; exact h)
  · skip
    refine V_aload_n (pc := 4) dX7_bearerBy_4 rfl rfl ?_
    refine V_iload_n (pc := 5) dX7_bearerBy_5 rfl rfl ?_
    refine V_callV (pc := 6) (as := [_]) (rest := []) dX7_bearerBy_6 ⟨kX7_152, iX7_bearerOf, by decide, by decide⟩ rc_38 rfl rfl (Nat.le_of_ble_eq_true rfl) (Nat.le_of_ble_eq_true rfl) ?_
    refine ct_X7_bearerOf hW hM hk ?_
    show V_ _ _ _ _ _ _ [_] _
    refine V_goto (tgt := 39) (pc := 9) dX7_bearerBy_9 (by decide) ?_
    refine V_ireturn (pc := 39) dX7_bearerBy_39 rfl rfl (fun hR => ?_)
    first | (rw [if_pos (by omega)] at h; exact h) | (rw [if_neg (by omega), if_pos (by omega)] at h; exact h) | (rw [if_neg (by omega), if_neg (by omega), if_pos (by omega)] at h; exact h) | (rw [if_neg (by omega), if_neg (by omega), if_neg (by omega)] at h; exact h)
theorem ct_X7_leftOf (hW : WF_ v) (hU : LW_ u) {Y : Nat} (hY : Y ≤ 29) (hM : HM_ v σ) (hL : LM_ u σ) (hsd : σ 38 21 = 255) {k : Nat} (hk : (k : Int) < v 3 0) (hK : ∀ τ, F4_ σ τ → post (some (vi_ (li_ v u (Y + 1) 0 k))) τ) : V_ l D mX7_leftOf (CM_ D mX7_leftOf post) 0 [some (vr_ 38), some (vi_ (Y : Int)), some (vi_ (k : Int))] [] σ := by
  have ws := hW.s
  have wn := hW.n
  have wl := hW.l
  have wk := hW.k
  refine V_aload_n (pc := 0) dX7_leftOf_0 rfl rfl ?_
  refine V_iload_n (pc := 1) dX7_leftOf_1 rfl rfl ?_
  refine V_callV (pc := 2) (as := [_]) (rest := []) dX7_leftOf_2 ⟨kX7_196, iX7_lives, by decide, by decide⟩ rc_38 rfl rfl (Nat.le_of_ble_eq_true rfl) (Nat.le_of_ble_eq_true rfl) ?_
  refine ct_X7_lives hW hU hY hM hL hsd (fun ρ hB1 hB2 => ?_)
  have hRW := li_RW (u := u) hW (Y + 1) (by omega)
  generalize hq : li_ v u (Y + 1) = q at hB1 hRW
  show V_ _ _ _ _ _ _ [] _
  refine V_aload_n (pc := 5) dX7_leftOf_5 rfl rfl ?_
  refine V_getr (pc := 6) dX7_leftOf_6 fX7_43 rfl gg_38 rfl ?_
  refine V_iload_n (pc := 9) dX7_leftOf_9 rfl rfl ?_
  refine V_ialdN (pc := 10) dX7_leftOf_10 gg_50 (by omega) (by decide) (fun r10 => ?_)
  rw [hB1.1 k hk] at r10 ⊢
  refine V_ireturn (pc := 11) dX7_leftOf_11 rfl rfl (fun hR => ?_)
  rw [← hq]
  exact hK _ hB2
theorem ct_X7_behindOf (hW : WF_ v) (hU : LW_ u) {Y : Nat} (hY : Y ≤ 29) (hM : HM_ v σ) (hL : LM_ u σ) (hsd : σ 38 21 = 255) {w : Int} (hw : 0 ≤ w ∧ w ≤ 1) (hK : ∀ τ, F4_ σ τ → post (some (vi_ (if w = 0 then li_ v u (Y + 1) 2 1 else li_ v u (Y + 1) 2 0))) τ) : V_ l D mX7_behindOf (CM_ D mX7_behindOf post) 0 [some (vr_ 38), some (vi_ (Y : Int)), some (vi_ w)] [] σ := by
  have ws := hW.s
  have wn := hW.n
  have wl := hW.l
  have wk := hW.k
  refine V_aload_n (pc := 0) dX7_behindOf_0 rfl rfl ?_
  refine V_iload_n (pc := 1) dX7_behindOf_1 rfl rfl ?_
  refine V_callV (pc := 2) (as := [_]) (rest := []) dX7_behindOf_2 ⟨kX7_196, iX7_lives, by decide, by decide⟩ rc_38 rfl rfl (Nat.le_of_ble_eq_true rfl) (Nat.le_of_ble_eq_true rfl) ?_
  refine ct_X7_lives hW hU hY hM hL hsd (fun ρ hB1 hB2 => ?_)
  have hRW := li_RW (u := u) hW (Y + 1) (by omega)
  generalize hq : li_ v u (Y + 1) = q at hB1 hRW
  show V_ _ _ _ _ _ _ [] _
  refine V_iload_n (pc := 5) dX7_behindOf_5 rfl rfl ?_
  refine V_if_ne (tgt := 16) (pc := 6) dX7_behindOf_6 (by decide) (by constructor <;> omega) (fun h6 => ?_) (fun h6 => ?_)
  · skip
    refine V_aload_n (pc := 16) dX7_behindOf_16 rfl rfl ?_
    refine V_geti (pc := 17) dX7_behindOf_17 fX7_177 rfl gg_38 rfl (fun r17 => ?_)
    rw [hB1.2.2.1] at r17 ⊢
    refine V_ireturn (pc := 20) dX7_behindOf_20 rfl rfl (fun hR => ?_)
    have := hK _ hB2
    rw [hq] at this
    first | (rw [if_pos (by omega)] at this; exact this) | (rw [if_neg (by omega)] at this; exact this)
  · skip
    refine V_aload_n (pc := 9) dX7_behindOf_9 rfl rfl ?_
    refine V_geti (pc := 10) dX7_behindOf_10 fX7_174 rfl gg_38 rfl (fun r10 => ?_)
    rw [hB1.2.2.2.1] at r10 ⊢
    refine V_goto (tgt := 20) (pc := 13) dX7_behindOf_13 (by decide) ?_
    refine V_ireturn (pc := 20) dX7_behindOf_20 rfl rfl (fun hR => ?_)
    have := hK _ hB2
    rw [hq] at this
    first | (rw [if_pos (by omega)] at this; exact this) | (rw [if_neg (by omega)] at this; exact this)
theorem ct_X7_paidOf (hW : WF_ v) (hU : LW_ u) {Y : Nat} (hY : Y ≤ 29) (hM : HM_ v σ) (hL : LM_ u σ) (hsd : σ 38 21 = 255) {s : Nat} (hs : s < 6) (hK : ∀ τ, F4_ σ τ → post (some (vi_ (li_ v u (Y + 1) 1 s))) τ) : V_ l D mX7_paidOf (CM_ D mX7_paidOf post) 0 [some (vr_ 38), some (vi_ (Y : Int)), some (vi_ (s : Int))] [] σ := by
  have ws := hW.s
  have wn := hW.n
  have wl := hW.l
  have wk := hW.k
  refine V_aload_n (pc := 0) dX7_paidOf_0 rfl rfl ?_
  refine V_iload_n (pc := 1) dX7_paidOf_1 rfl rfl ?_
  refine V_callV (pc := 2) (as := [_]) (rest := []) dX7_paidOf_2 ⟨kX7_196, iX7_lives, by decide, by decide⟩ rc_38 rfl rfl (Nat.le_of_ble_eq_true rfl) (Nat.le_of_ble_eq_true rfl) ?_
  refine ct_X7_lives hW hU hY hM hL hsd (fun ρ hB1 hB2 => ?_)
  have hRW := li_RW (u := u) hW (Y + 1) (by omega)
  generalize hq : li_ v u (Y + 1) = q at hB1 hRW
  show V_ _ _ _ _ _ _ [] _
  refine V_aload_n (pc := 5) dX7_paidOf_5 rfl rfl ?_
  refine V_getr (pc := 6) dX7_paidOf_6 fX7_46 rfl gg_38 rfl ?_
  refine V_iload_n (pc := 9) dX7_paidOf_9 rfl rfl ?_
  refine V_ialdN (pc := 10) dX7_paidOf_10 gg_51 (by omega) (by decide) (fun r10 => ?_)
  rw [hB1.2.1 s hs] at r10 ⊢
  refine V_ireturn (pc := 11) dX7_paidOf_11 rfl rfl (fun hR => ?_)
  rw [← hq]
  exact hK _ hB2
theorem ct_X7_firstOf (hW : WF_ v) (hU : LW_ u) (hM : HM_ v σ) (hL : LM_ u σ) (hsd : σ 38 21 = 255) {w : Int} (hw : 0 ≤ w ∧ w ≤ 1) (hK : ∀ τ, F4_ σ τ → post (some (vi_ (if w = 0 then li_ v u 30 2 2 else li_ v u 30 2 3))) τ) : V_ l D mX7_firstOf (CM_ D mX7_firstOf post) 0 [some (vr_ 38), some (vi_ w)] [] σ := by
  have ws := hW.s
  have wn := hW.n
  have wl := hW.l
  have wk := hW.k
  refine V_aload_n (pc := 0) dX7_firstOf_0 rfl rfl ?_
  refine V_bipush (pc := 1) dX7_firstOf_1 (by decide) ?_
  refine V_callV (pc := 3) (as := [_]) (rest := []) dX7_firstOf_3 ⟨kX7_196, iX7_lives, by decide, by decide⟩ rc_38 rfl rfl (Nat.le_of_ble_eq_true rfl) (Nat.le_of_ble_eq_true rfl) ?_
  refine ct_X7_lives (Y := 29) hW hU (by decide) hM hL hsd (fun ρ hB1 hB2 => ?_)
  show V_ _ _ _ _ _ _ [] _
  refine V_iload_n (pc := 6) dX7_firstOf_6 rfl rfl ?_
  refine V_if_ne (tgt := 17) (pc := 7) dX7_firstOf_7 (by decide) (by constructor <;> omega) (fun h7 => ?_) (fun h7 => ?_)
  · skip
    refine V_aload_n (pc := 17) dX7_firstOf_17 rfl rfl ?_
    refine V_geti (pc := 18) dX7_firstOf_18 fX7_183 rfl gg_38 rfl (fun r18 => ?_)
    rw [hB1.2.2.2.2.2] at r18 ⊢
    refine V_ireturn (pc := 21) dX7_firstOf_21 rfl rfl (fun hR => ?_)
    have := hK _ hB2
    first | (rw [if_pos (by omega)] at this; exact this) | (rw [if_neg (by omega)] at this; exact this)
  · skip
    refine V_aload_n (pc := 10) dX7_firstOf_10 rfl rfl ?_
    refine V_geti (pc := 11) dX7_firstOf_11 fX7_180 rfl gg_38 rfl (fun r11 => ?_)
    rw [hB1.2.2.2.2.1] at r11 ⊢
    refine V_goto (tgt := 21) (pc := 14) dX7_firstOf_14 (by decide) ?_
    refine V_ireturn (pc := 21) dX7_firstOf_21 rfl rfl (fun hR => ?_)
    have := hK _ hB2
    first | (rw [if_pos (by omega)] at this; exact this) | (rw [if_neg (by omega)] at this; exact this)
theorem lp_X7_safeNow (hW : WF_ v) (hK : ∀ τ, F4_ σ τ → post (some (vi_ (bs_ (fun s => decide (si_ v 255 0 (s : Int) (bg_ v) 2 1 = 0)) (v 0 0).toNat))) τ) : ∀ i : Nat, i ≤ (v 0 0).toNat → ∀ τ, HM_ v τ → τ 38 21 = 255 → F4_ σ τ → V_ l D mX7_safeNow (CM_ D mX7_safeNow post) 4 [some (vr_ 38), some (vi_ (bs_ (fun s => decide (si_ v 255 0 (s : Int) (bg_ v) 2 1 = 0)) i)), some (vi_ (i : Int))] [] τ := by
  have ws := hW.s
  have wn := hW.n
  have wl := hW.l
  have wk := hW.k
  refine up_ _ (fun i hi ih τ hM hsd hF => ?_)
  have hb := bs_rg (fun s => decide (si_ v 255 0 (s : Int) (bg_ v) 2 1 = 0)) i
  have q7 : ((2 ^ i : Nat) : Int) ≤ 64 := by
    have : 2 ^ i ≤ 2 ^ 6 := Nat.pow_le_pow_right (by decide) (by omega)
    omega
  refine V_iload_n (pc := 4) dX7_safeNow_4 rfl rfl ?_
  refine V_aload_n (pc := 5) dX7_safeNow_5 rfl rfl ?_
  refine V_getr (pc := 6) dX7_safeNow_6 fX7_28 rfl gg_38 rfl ?_
  refine V_iconst (pc := 9) dX7_safeNow_9 ?_
  refine V_iald (pc := 10) dX7_safeNow_10 gg_45 (by decide) (by decide) (fun r10 => ?_)
  rw [show τ 45 (0 : Int).toNat = v 0 0 from hM.1.1] at r10 ⊢
  refine V_icmp_ge (tgt := 42) (pc := 11) dX7_safeNow_11 (by decide) (by constructor <;> omega) (by constructor <;> omega) (fun h11 => ?_) (fun h11 => ?_)
  · skip
    refine V_iload_n (pc := 42) dX7_safeNow_42 rfl rfl ?_
    refine V_ireturn (pc := 43) dX7_safeNow_43 rfl rfl (fun hR => ?_)
    have := hK _ hF
    rw [show (v 0 0).toNat = i by omega] at this
    exact this
  · skip
    refine V_aload_n (pc := 14) dX7_safeNow_14 rfl rfl ?_
    refine V_iload_n (pc := 15) dX7_safeNow_15 rfl rfl ?_
    refine V_callV (pc := 16) (as := [_]) (rest := []) dX7_safeNow_16 ⟨kX7_212, iX7_alone, by decide, by decide⟩ rc_38 rfl rfl (Nat.le_of_ble_eq_true rfl) (Nat.le_of_ble_eq_true rfl) ?_
    refine ct_X7_alone hW (by decide) (by omega) hM hsd (fun ρ hB1 hB2 => ?_)
    show V_ _ _ _ _ _ _ [] _
    refine V_iload_n (pc := 19) dX7_safeNow_19 rfl rfl ?_
    refine V_aload_n (pc := 20) dX7_safeNow_20 rfl rfl ?_
    refine V_geti (pc := 21) dX7_safeNow_21 fX7_174 rfl gg_38 rfl (fun r21 => ?_)
    rw [hB1.2.2.2.1] at r21 ⊢
    refine V_if_ne (tgt := 33) (pc := 24) dX7_safeNow_24 (by decide) (by constructor <;> omega) (fun h24 => ?_) (fun h24 => ?_)
    · skip
      have e0 : bs_ (fun s => decide (si_ v 255 0 (s : Int) (bg_ v) 2 1 = 0)) (i + 1) = bs_ (fun s => decide (si_ v 255 0 (s : Int) (bg_ v) 2 1 = 0)) i := by show (if _ then _ else _) = _; rw [if_neg (by simp only [decide_eq_true_eq]; exact h24)]
      refine V_iconst (pc := 33) dX7_safeNow_33 ?_
      refine V_ior (pc := 34) dX7_safeNow_34 ?_
      first | rw [bit_or (by omega) (by omega)] | rw [or_0 (by omega)]
      refine V_istore_n (pc := 35) dX7_safeNow_35 rfl (by decide) rfl ?_
      show V_ _ _ _ _ _ [_, _, _] _ _
      refine V_iinc (pc := 36) dX7_safeNow_36 rfl (by decide) rfl ?_
      show V_ _ _ _ _ _ [_, _, _] _ _
      refine V_goto (tgt := 4) (pc := 39) dX7_safeNow_39 (by decide) ?_
      exact V_cg (ih (by omega) _ (hM.f4 hB2) (hB2.sd hsd) (hF.tr hB2)) (by rw [e0]; simp) rfl rfl
    · skip
      have e0 : bs_ (fun s => decide (si_ v 255 0 (s : Int) (bg_ v) 2 1 = 0)) (i + 1) = so_ (bs_ (fun s => decide (si_ v 255 0 (s : Int) (bg_ v) 2 1 = 0)) i) i := by show (if _ then _ else _) = _; rw [if_pos (by simp only [decide_eq_true_eq]; exact h24)]
      refine V_iconst (pc := 27) dX7_safeNow_27 ?_
      refine V_iload_n (pc := 28) dX7_safeNow_28 rfl rfl ?_
      refine V_ishl (pc := 29) dX7_safeNow_29 ?_
      refine V_goto (tgt := 34) (pc := 30) dX7_safeNow_30 (by decide) ?_
      refine V_ior (pc := 34) dX7_safeNow_34 ?_
      first | rw [bit_or (by omega) (by omega)] | rw [or_0 (by omega)]
      refine V_istore_n (pc := 35) dX7_safeNow_35 rfl (by decide) rfl ?_
      show V_ _ _ _ _ _ [_, _, _] _ _
      refine V_iinc (pc := 36) dX7_safeNow_36 rfl (by decide) rfl ?_
      show V_ _ _ _ _ _ [_, _, _] _ _
      refine V_goto (tgt := 4) (pc := 39) dX7_safeNow_39 (by decide) ?_
      exact V_cg (ih (by omega) _ (hM.f4 hB2) (hB2.sd hsd) (hF.tr hB2)) (by rw [e0]; simp) rfl rfl
theorem ct_X7_safeNow (hW : WF_ v) (hM : HM_ v σ) (hsd : σ 38 21 = 255) (hK : ∀ τ, F4_ σ τ → post (some (vi_ (bs_ (fun s => decide (si_ v 255 0 (s : Int) (bg_ v) 2 1 = 0)) (v 0 0).toNat))) τ) : V_ l D mX7_safeNow (CM_ D mX7_safeNow post) 0 [some (vr_ 38), none, none] [] σ := by
  refine V_iconst (pc := 0) dX7_safeNow_0 ?_
  refine V_istore_n (pc := 1) dX7_safeNow_1 rfl (by decide) rfl ?_
  show V_ _ _ _ _ _ [_, _, _] _ _
  refine V_iconst (pc := 2) dX7_safeNow_2 ?_
  refine V_istore_n (pc := 3) dX7_safeNow_3 rfl (by decide) rfl ?_
  show V_ _ _ _ _ _ [_, _, _] _ _
  exact V_cg (lp_X7_safeNow hW hK 0 (Nat.zero_le _) _ hM hsd F4_.rf) (by simp [bs_]) rfl rfl
theorem lp_X7_ones {x : Int} (hx : 0 ≤ x ∧ x < 256) (h : post (some (vi_ (pc_ x))) σ) : ∀ z : Nat, z < 256 → ∀ c : Int, 0 ≤ c → c + pc_ (z : Int) = pc_ x → V_ l D mX7_ones (CM_ D mX7_ones post) 4 [some (vi_ x), some (vi_ c), some (vi_ (z : Int))] [] σ := by
  intro z
  refine Nat.strongRecOn z (fun z ih hz c hc hc2 => ?_)
  have hp := pc_rg (x := x)
  have hp2 := pc_rg (x := (z : Int))
  refine V_iload_n (pc := 4) dX7_ones_4 rfl rfl ?_
  refine V_if_eq (tgt := 20) (pc := 5) dX7_ones_5 (by decide) (by constructor <;> omega) (fun h5 => ?_) (fun h5 => ?_)
  · skip
    refine V_iload_n (pc := 20) dX7_ones_20 rfl rfl ?_
    refine V_ireturn (pc := 21) dX7_ones_21 rfl rfl (fun hR => ?_)
    rw [show c = pc_ x by rw [← hc2, h5, show pc_ 0 = 0 by decide +kernel]; omega]
    exact h
  · skip
    obtain ⟨o1, o2, o3⟩ := on_ z hz (by omega)
    obtain ⟨z2, hz2⟩ := i_nat o1
    refine V_iinc (pc := 8) dX7_ones_8 rfl (by decide) rfl ?_
    show V_ _ _ _ _ _ [_, _, _] _ _
    refine V_iload_n (pc := 11) dX7_ones_11 rfl rfl ?_
    refine V_iload_n (pc := 12) dX7_ones_12 rfl rfl ?_
    refine V_iconst (pc := 13) dX7_ones_13 ?_
    refine V_isub (pc := 14) dX7_ones_14 ?_
    refine V_iand (pc := 15) dX7_ones_15 ?_
    refine V_istore_n (pc := 16) dX7_ones_16 rfl (by decide) rfl ?_
    show V_ _ _ _ _ _ [_, _, _] _ _
    refine V_goto (tgt := 4) (pc := 17) dX7_ones_17 (by decide) ?_
    rw [hz2] at o2 o3 ⊢
    exact V_cg (ih z2 (by omega) (by omega) (c + 1) (by omega) (by omega)) (by simp) rfl rfl
theorem ct_X7_ones {x : Int} (hx : 0 ≤ x ∧ x < 256) (h : post (some (vi_ (pc_ x))) σ) : V_ l D mX7_ones (CM_ D mX7_ones post) 0 [some (vi_ x), none, none] [] σ := by
  obtain ⟨q, rfl⟩ := i_nat hx.1
  refine V_iconst (pc := 0) dX7_ones_0 ?_
  refine V_istore_n (pc := 1) dX7_ones_1 rfl (by decide) rfl ?_
  show V_ _ _ _ _ _ [_, _, _] _ _
  refine V_iload_n (pc := 2) dX7_ones_2 rfl rfl ?_
  refine V_istore_n (pc := 3) dX7_ones_3 rfl (by decide) rfl ?_
  show V_ _ _ _ _ _ [_, _, _] _ _
  exact V_cg (lp_X7_ones hx h q (by omega) 0 (by omega) (by omega)) (by simp) rfl rfl
theorem ct_X7_strikeOf {k z : Int} (hW : WF_ v) (hM : HM_ v σ) (hk : wN_ v k) (hz : wN_ v z) (h : post (some (vi_ (bt2_ (vs_ v (so_ (v 11 0) z)) k (v 0 0).toNat - bt2_ v k (v 0 0).toNat))) σ) : V_ l D mX7_strikeOf (CM_ D mX7_strikeOf post) 0 [some (vr_ 38), some (vi_ k), some (vi_ z), none, none, none] [] σ := by
  have ws := hW.s
  have wn := hW.n
  have wl := hW.l
  have wk := hW.k
  have h12 : σ 38 12 = v 11 0 := hM.2.2.2.2
  have hb := bt2_rg hW (k := k) (n := (v 0 0).toNat) (by omega)
  refine V_aload_n (pc := 0) dX7_strikeOf_0 rfl rfl ?_
  refine V_iload_n (pc := 1) dX7_strikeOf_1 rfl rfl ?_
  refine V_callV (pc := 2) (as := [_]) (rest := []) dX7_strikeOf_2 ⟨kX7_228, iX7_borneAll, by decide, by decide⟩ rc_38 rfl rfl (Nat.le_of_ble_eq_true rfl) (Nat.le_of_ble_eq_true rfl) ?_
  refine ct_X7_borneAll hW hM (by constructor <;> omega) ?_
  show V_ _ _ _ _ _ _ [_] _
  refine V_istore_n (pc := 5) dX7_strikeOf_5 rfl (by decide) rfl ?_
  show V_ _ _ _ _ _ [_, _, _, _, _, _] _ _
  refine V_aload_n (pc := 6) dX7_strikeOf_6 rfl rfl ?_
  refine V_geti (pc := 7) dX7_strikeOf_7 fX7_136 rfl gg_38 rfl (fun r7 => ?_)
  rw [h12] at r7 ⊢
  refine V_istore (pc := 10) dX7_strikeOf_10 (by decide) rfl ?_
  show V_ _ _ _ _ _ [_, _, _, _, _, _] _ _
  refine V_aload_n (pc := 12) dX7_strikeOf_12 rfl rfl ?_
  refine V_dup (pc := 13) dX7_strikeOf_13 rfl ?_
  refine V_geti (pc := 14) dX7_strikeOf_14 fX7_136 rfl gg_38 rfl (fun r14 => ?_)
  rw [h12] at r14 ⊢
  refine V_iconst (pc := 17) dX7_strikeOf_17 ?_
  refine V_iload_n (pc := 18) dX7_strikeOf_18 rfl rfl ?_
  refine V_ishl (pc := 19) dX7_strikeOf_19 ?_
  refine V_ior (pc := 20) dX7_strikeOf_20 ?_
  rw [bit_or (by omega) (by omega)]
  have hso := so_rg (s := v 11 0) (k := z) (m := 8) ⟨wk.1, by have := wk.2; omega⟩ ⟨by omega, by omega⟩
  have hW2 := hW.vs (x := so_ (v 11 0) z) (by omega)
  have hb2 := bt2_rg hW2 (k := k) (n := (v 0 0).toNat) (by show _ ≤ v 0 0; omega)
  refine V_puti (pc := 21) dX7_strikeOf_21 fX7_136 rfl gg_38 rfl pq_7_12 rfl rfl (by first | assumption | decide | (constructor <;> omega)) ?_
  refine V_aload_n (pc := 24) dX7_strikeOf_24 rfl rfl ?_
  refine V_iload_n (pc := 25) dX7_strikeOf_25 rfl rfl ?_
  refine V_callV (pc := 26) (as := [_]) (rest := []) dX7_strikeOf_26 ⟨kX7_228, iX7_borneAll, by decide, by decide⟩ rc_38 rfl rfl (Nat.le_of_ble_eq_true rfl) (Nat.le_of_ble_eq_true rfl) ?_
  refine ct_X7_borneAll hW2 hM.vs (by constructor <;> omega) ?_
  rw [show (vs_ v (so_ (v 11 0) z) 0 0) = v 0 0 from rfl]
  show V_ _ _ _ _ _ _ [_] _
  refine V_istore (pc := 29) dX7_strikeOf_29 (by decide) rfl ?_
  show V_ _ _ _ _ _ [_, _, _, _, _, _] _ _
  refine V_aload_n (pc := 31) dX7_strikeOf_31 rfl rfl ?_
  refine V_iload (pc := 32) dX7_strikeOf_32 rfl ?_
  refine V_puti (pc := 34) dX7_strikeOf_34 fX7_136 rfl gg_38 rfl pq_7_12 rfl rfl (by first | assumption | decide | (constructor <;> omega)) ?_
  rw [ms_ms, ms_id h12]
  refine V_iload (pc := 37) dX7_strikeOf_37 rfl ?_
  refine V_iload_n (pc := 39) dX7_strikeOf_39 rfl rfl ?_
  refine V_isub (pc := 40) dX7_strikeOf_40 ?_
  refine V_ireturn (pc := 41) dX7_strikeOf_41 rfl rfl (fun hR => ?_)
  exact h
theorem lp_X7_takeOf {s : Int} (hs : wS_ v s) (hW : WF_ v) (hM : HM_ v σ) (h : post (some (vi_ (tk_ v s.toNat (ns_ v - 1)).1)) σ) : ∀ i : Nat, i ≤ ns_ v - 1 → V_ l D mX7_takeOf (CM_ D mX7_takeOf post) 4 [some (vr_ 38), some (vi_ s), some (vi_ (tk_ v s.toNat i).1), some (vi_ ((i : Int) + 1)), none, none] [] σ := by
  have ws := hW.s
  have wn := hW.n
  have wl := hW.l
  have wk := hW.k
  have hns := ns_rg hW
  refine up_ _ (fun i hi ih => ?_)
  have ht := tk_rg hW (s := s.toNat) (n := i)
  have ht2 := tk_hs (v := v) (s := s.toNat) i
  have hh := hs_rg hW (set := (i : Int) + 1) (n := (v 3 0).toNat) (by omega)
  have hp := pc_rg (x := (i : Int) + 1)
  have hp2 := pc_rg (x := (tk_ v s.toNat i).1)
  have wz := hW.si (k := s.toNat) (by omega)
  refine V_iload_n (pc := 4) dX7_takeOf_4 rfl rfl ?_
  refine V_iconst (pc := 5) dX7_takeOf_5 ?_
  refine V_aload_n (pc := 6) dX7_takeOf_6 rfl rfl ?_
  refine V_getr (pc := 7) dX7_takeOf_7 fX7_28 rfl gg_38 rfl ?_
  refine V_iconst (pc := 10) dX7_takeOf_10 ?_
  refine V_iald (pc := 11) dX7_takeOf_11 gg_45 (by decide) (by decide) (fun r11 => ?_)
  rw [show σ 45 (1 : Int).toNat = v 3 0 from hM.1.2.1] at r11 ⊢
  refine V_ishl (pc := 12) dX7_takeOf_12 ?_
  rw [ns_sh hW]
  refine V_icmp_ge (tgt := 106) (pc := 13) dX7_takeOf_13 (by decide) (by constructor <;> omega) (by constructor <;> omega) (fun h13 => ?_) (fun h13 => ?_)
  · skip
    refine V_iload_n (pc := 106) dX7_takeOf_106 rfl rfl ?_
    refine V_ireturn (pc := 107) dX7_takeOf_107 rfl rfl (fun hR => ?_)
    rw [show ns_ v - 1 = i by omega] at h
    exact h
  · skip
    refine V_aload_n (pc := 16) dX7_takeOf_16 rfl rfl ?_
    refine V_iload_n (pc := 17) dX7_takeOf_17 rfl rfl ?_
    refine V_callV (pc := 18) (as := [_]) (rest := []) dX7_takeOf_18 ⟨kX7_219, iX7_haveAll, by decide, by decide⟩ rc_38 rfl rfl (Nat.le_of_ble_eq_true rfl) (Nat.le_of_ble_eq_true rfl) ?_
    refine ct_X7_haveAll hW hM (by omega) ?_
    show V_ _ _ _ _ _ _ [_] _
    refine V_istore (pc := 21) dX7_takeOf_21 (by decide) rfl ?_
    show V_ _ _ _ _ _ [_, _, _, _, _, _] _ _
    refine V_iload_n (pc := 23) dX7_takeOf_23 rfl rfl ?_
    refine V_aload_n (pc := 24) dX7_takeOf_24 rfl rfl ?_
    refine V_geti (pc := 25) dX7_takeOf_25 fX7_136 rfl gg_38 rfl (fun r25 => ?_)
    rw [hM.2.2.2.2] at r25 ⊢
    refine V_iand (pc := 28) dX7_takeOf_28 ?_
    refine V_if_ne (tgt := 100) (pc := 29) dX7_takeOf_29 (by decide) (i3_rg _) (fun h29 => ?_) (fun h29 => ?_)
    · skip
      skip
      refine V_iinc (pc := 100) dX7_takeOf_100 rfl (by decide) rfl ?_
      show V_ _ _ _ _ _ [_, _, _, _, _, _] _ _
      refine V_goto (tgt := 4) (pc := 103) dX7_takeOf_103 (by decide) ?_
      refine V_none (k := 4) ?_
      show V_ _ _ _ _ _ [_, _, _, _, _, _] _ _
      have e0 : tk_ v s.toNat (i + 1) = tk_ v s.toNat i := by rw [tk_, if_pos (Or.inl h29)]
      exact V_cg (ih (by omega)) (by rw [e0]; simp) rfl rfl
    · skip
      refine V_iload (pc := 32) dX7_takeOf_32 rfl ?_
      refine V_aload_n (pc := 34) dX7_takeOf_34 rfl rfl ?_
      refine V_getr (pc := 35) dX7_takeOf_35 fX7_31 rfl gg_38 rfl ?_
      refine V_iconst (pc := 38) dX7_takeOf_38 ?_
      refine V_iload_n (pc := 39) dX7_takeOf_39 rfl rfl ?_
      refine V_imul (pc := 40) dX7_takeOf_40 ?_
      refine V_iald (pc := 41) dX7_takeOf_41 gg_46 (by omega) (by decide) (fun r41 => ?_)
      rw [show (2 * s).toNat = 2 * s.toNat by omega, (hM.si (k := s.toNat) (by omega)).1] at r41 ⊢
      refine V_icmp_lt (tgt := 100) (pc := 42) dX7_takeOf_42 (by decide) (by constructor <;> omega) (by constructor <;> omega) (fun h42 => ?_) (fun h42 => ?_)
      · skip
        skip
        refine V_iinc (pc := 100) dX7_takeOf_100 rfl (by decide) rfl ?_
        show V_ _ _ _ _ _ [_, _, _, _, _, _] _ _
        refine V_goto (tgt := 4) (pc := 103) dX7_takeOf_103 (by decide) ?_
        refine V_none (k := 4) ?_
        show V_ _ _ _ _ _ [_, _, _, _, _, _] _ _
        have e0 : tk_ v s.toNat (i + 1) = tk_ v s.toNat i := by rw [tk_, if_pos (Or.inr h42)]
        exact V_cg (ih (by omega)) (by rw [e0]; simp) rfl rfl
      · skip
        refine V_iload_n (pc := 45) dX7_takeOf_45 rfl rfl ?_
        refine V_iconst (pc := 46) dX7_takeOf_46 ?_
        refine V_icmp_eq (tgt := 82) (pc := 47) dX7_takeOf_47 (by decide) (by constructor <;> omega) (by constructor <;> omega) (fun h47 => ?_) (fun h47 => ?_)
        · skip
          refine V_iconst (pc := 82) dX7_takeOf_82 ?_
          refine V_goto (tgt := 87) (pc := 83) dX7_takeOf_83 (by decide) ?_
          refine V_istore (pc := 87) dX7_takeOf_87 (by decide) rfl ?_
          show V_ _ _ _ _ _ [_, _, _, _, _, _] _ _
          refine V_iload (pc := 89) dX7_takeOf_89 rfl ?_
          refine V_if_eq (tgt := 98) (pc := 91) dX7_takeOf_91 (by decide) (by constructor <;> omega) (fun h91 => by exact absurd h91 (by decide)) (fun h91 => ?_)
          refine V_iload_n (pc := 94) dX7_takeOf_94 rfl rfl ?_
          refine V_goto (tgt := 99) (pc := 95) dX7_takeOf_95 (by decide) ?_
          refine V_istore_n (pc := 99) dX7_takeOf_99 rfl (by decide) rfl ?_
          show V_ _ _ _ _ _ [_, _, _, _, _, _] _ _
          refine V_iinc (pc := 100) dX7_takeOf_100 rfl (by decide) rfl ?_
          show V_ _ _ _ _ _ [_, _, _, _, _, _] _ _
          refine V_goto (tgt := 4) (pc := 103) dX7_takeOf_103 (by decide) ?_
          refine V_none (k := 4) ?_
          show V_ _ _ _ _ _ [_, _, _, _, _, _] _ _
          refine V_none (k := 5) ?_
          show V_ _ _ _ _ _ [_, _, _, _, _, _] _ _
          have e0 : tk_ v s.toNat (i + 1) = ((i : Int) + 1, hs_ v ((i : Int) + 1) (v 3 0).toNat) := by rw [tk_, if_neg (fun z => z.elim (fun z => z h29) (fun z => absurd z (by omega))), if_pos (by omega)]
          exact V_cg (ih (by omega)) (by rw [e0]; simp) rfl rfl
        · skip
          refine V_iload_n (pc := 50) dX7_takeOf_50 rfl rfl ?_
          refine V_callS (pc := 51) (as := [_]) (rest := []) dX7_takeOf_51 ⟨kX7_222, sX7_ones, by decide, by decide⟩ rfl rfl (Nat.le_of_ble_eq_true rfl) (Nat.le_of_ble_eq_true rfl) ?_
          refine ct_X7_ones (by omega) ?_
          show V_ _ _ _ _ _ _ [_] _
          refine V_iload_n (pc := 54) dX7_takeOf_54 rfl rfl ?_
          refine V_callS (pc := 55) (as := [_]) (rest := [_]) dX7_takeOf_55 ⟨kX7_222, sX7_ones, by decide, by decide⟩ rfl rfl (Nat.le_of_ble_eq_true rfl) (Nat.le_of_ble_eq_true rfl) ?_
          refine ct_X7_ones (by omega) ?_
          show V_ _ _ _ _ _ _ [_, _] _
          refine V_icmp_lt (tgt := 82) (pc := 58) dX7_takeOf_58 (by decide) (by constructor <;> omega) (by constructor <;> omega) (fun h58 => ?_) (fun h58 => ?_)
          · skip
            refine V_iconst (pc := 82) dX7_takeOf_82 ?_
            refine V_goto (tgt := 87) (pc := 83) dX7_takeOf_83 (by decide) ?_
            refine V_istore (pc := 87) dX7_takeOf_87 (by decide) rfl ?_
            show V_ _ _ _ _ _ [_, _, _, _, _, _] _ _
            refine V_iload (pc := 89) dX7_takeOf_89 rfl ?_
            refine V_if_eq (tgt := 98) (pc := 91) dX7_takeOf_91 (by decide) (by constructor <;> omega) (fun h91 => by exact absurd h91 (by decide)) (fun h91 => ?_)
            refine V_iload_n (pc := 94) dX7_takeOf_94 rfl rfl ?_
            refine V_goto (tgt := 99) (pc := 95) dX7_takeOf_95 (by decide) ?_
            refine V_istore_n (pc := 99) dX7_takeOf_99 rfl (by decide) rfl ?_
            show V_ _ _ _ _ _ [_, _, _, _, _, _] _ _
            refine V_iinc (pc := 100) dX7_takeOf_100 rfl (by decide) rfl ?_
            show V_ _ _ _ _ _ [_, _, _, _, _, _] _ _
            refine V_goto (tgt := 4) (pc := 103) dX7_takeOf_103 (by decide) ?_
            refine V_none (k := 4) ?_
            show V_ _ _ _ _ _ [_, _, _, _, _, _] _ _
            refine V_none (k := 5) ?_
            show V_ _ _ _ _ _ [_, _, _, _, _, _] _ _
            have e0 : tk_ v s.toNat (i + 1) = ((i : Int) + 1, hs_ v ((i : Int) + 1) (v 3 0).toNat) := by rw [tk_, if_neg (fun z => z.elim (fun z => z h29) (fun z => absurd z (by omega))), if_pos (by omega)]
            exact V_cg (ih (by omega)) (by rw [e0]; simp) rfl rfl
          · skip
            refine V_iload_n (pc := 61) dX7_takeOf_61 rfl rfl ?_
            refine V_callS (pc := 62) (as := [_]) (rest := []) dX7_takeOf_62 ⟨kX7_222, sX7_ones, by decide, by decide⟩ rfl rfl (Nat.le_of_ble_eq_true rfl) (Nat.le_of_ble_eq_true rfl) ?_
            refine ct_X7_ones (by omega) ?_
            show V_ _ _ _ _ _ _ [_] _
            refine V_iload_n (pc := 65) dX7_takeOf_65 rfl rfl ?_
            refine V_callS (pc := 66) (as := [_]) (rest := [_]) dX7_takeOf_66 ⟨kX7_222, sX7_ones, by decide, by decide⟩ rfl rfl (Nat.le_of_ble_eq_true rfl) (Nat.le_of_ble_eq_true rfl) ?_
            refine ct_X7_ones (by omega) ?_
            show V_ _ _ _ _ _ _ [_, _] _
            refine V_icmp_ne (tgt := 86) (pc := 69) dX7_takeOf_69 (by decide) (by constructor <;> omega) (by constructor <;> omega) (fun h69 => ?_) (fun h69 => ?_)
            · skip
              refine V_iconst (pc := 86) dX7_takeOf_86 ?_
              refine V_istore (pc := 87) dX7_takeOf_87 (by decide) rfl ?_
              show V_ _ _ _ _ _ [_, _, _, _, _, _] _ _
              refine V_iload (pc := 89) dX7_takeOf_89 rfl ?_
              refine V_if_eq (tgt := 98) (pc := 91) dX7_takeOf_91 (by decide) (by constructor <;> omega) (fun h91 => ?_) (fun h91 => by exact absurd h91 (by decide))
              refine V_iload_n (pc := 98) dX7_takeOf_98 rfl rfl ?_
              refine V_istore_n (pc := 99) dX7_takeOf_99 rfl (by decide) rfl ?_
              show V_ _ _ _ _ _ [_, _, _, _, _, _] _ _
              refine V_iinc (pc := 100) dX7_takeOf_100 rfl (by decide) rfl ?_
              show V_ _ _ _ _ _ [_, _, _, _, _, _] _ _
              refine V_goto (tgt := 4) (pc := 103) dX7_takeOf_103 (by decide) ?_
              refine V_none (k := 4) ?_
              show V_ _ _ _ _ _ [_, _, _, _, _, _] _ _
              refine V_none (k := 5) ?_
              show V_ _ _ _ _ _ [_, _, _, _, _, _] _ _
              have e0 : tk_ v s.toNat (i + 1) = tk_ v s.toNat i := by rw [tk_, if_neg (fun z => z.elim (fun z => z h29) (fun z => absurd z (by omega))), if_neg (by omega)]
              exact V_cg (ih (by omega)) (by rw [e0]; simp) rfl rfl
            · skip
              refine V_iload (pc := 72) dX7_takeOf_72 rfl ?_
              refine V_aload_n (pc := 74) dX7_takeOf_74 rfl rfl ?_
              refine V_iload_n (pc := 75) dX7_takeOf_75 rfl rfl ?_
              refine V_callV (pc := 76) (as := [_]) (rest := [_]) dX7_takeOf_76 ⟨kX7_219, iX7_haveAll, by decide, by decide⟩ rc_38 rfl rfl (Nat.le_of_ble_eq_true rfl) (Nat.le_of_ble_eq_true rfl) ?_
              refine ct_X7_haveAll hW hM (by omega) ?_
              rw [← ht2 h47]
              show V_ _ _ _ _ _ _ [_, _] _
              refine V_icmp_ge (tgt := 86) (pc := 79) dX7_takeOf_79 (by decide) (by constructor <;> omega) (by constructor <;> omega) (fun h79 => ?_) (fun h79 => ?_)
              · skip
                refine V_iconst (pc := 86) dX7_takeOf_86 ?_
                refine V_istore (pc := 87) dX7_takeOf_87 (by decide) rfl ?_
                show V_ _ _ _ _ _ [_, _, _, _, _, _] _ _
                refine V_iload (pc := 89) dX7_takeOf_89 rfl ?_
                refine V_if_eq (tgt := 98) (pc := 91) dX7_takeOf_91 (by decide) (by constructor <;> omega) (fun h91 => ?_) (fun h91 => by exact absurd h91 (by decide))
                refine V_iload_n (pc := 98) dX7_takeOf_98 rfl rfl ?_
                refine V_istore_n (pc := 99) dX7_takeOf_99 rfl (by decide) rfl ?_
                show V_ _ _ _ _ _ [_, _, _, _, _, _] _ _
                refine V_iinc (pc := 100) dX7_takeOf_100 rfl (by decide) rfl ?_
                show V_ _ _ _ _ _ [_, _, _, _, _, _] _ _
                refine V_goto (tgt := 4) (pc := 103) dX7_takeOf_103 (by decide) ?_
                refine V_none (k := 4) ?_
                show V_ _ _ _ _ _ [_, _, _, _, _, _] _ _
                refine V_none (k := 5) ?_
                show V_ _ _ _ _ _ [_, _, _, _, _, _] _ _
                have e0 : tk_ v s.toNat (i + 1) = tk_ v s.toNat i := by rw [tk_, if_neg (fun z => z.elim (fun z => z h29) (fun z => absurd z (by omega))), if_neg (by omega)]
                exact V_cg (ih (by omega)) (by rw [e0]; simp) rfl rfl
              · skip
                refine V_iconst (pc := 82) dX7_takeOf_82 ?_
                refine V_goto (tgt := 87) (pc := 83) dX7_takeOf_83 (by decide) ?_
                refine V_istore (pc := 87) dX7_takeOf_87 (by decide) rfl ?_
                show V_ _ _ _ _ _ [_, _, _, _, _, _] _ _
                refine V_iload (pc := 89) dX7_takeOf_89 rfl ?_
                refine V_if_eq (tgt := 98) (pc := 91) dX7_takeOf_91 (by decide) (by constructor <;> omega) (fun h91 => by exact absurd h91 (by decide)) (fun h91 => ?_)
                refine V_iload_n (pc := 94) dX7_takeOf_94 rfl rfl ?_
                refine V_goto (tgt := 99) (pc := 95) dX7_takeOf_95 (by decide) ?_
                refine V_istore_n (pc := 99) dX7_takeOf_99 rfl (by decide) rfl ?_
                show V_ _ _ _ _ _ [_, _, _, _, _, _] _ _
                refine V_iinc (pc := 100) dX7_takeOf_100 rfl (by decide) rfl ?_
                show V_ _ _ _ _ _ [_, _, _, _, _, _] _ _
                refine V_goto (tgt := 4) (pc := 103) dX7_takeOf_103 (by decide) ?_
                refine V_none (k := 4) ?_
                show V_ _ _ _ _ _ [_, _, _, _, _, _] _ _
                refine V_none (k := 5) ?_
                show V_ _ _ _ _ _ [_, _, _, _, _, _] _ _
                have e0 : tk_ v s.toNat (i + 1) = ((i : Int) + 1, hs_ v ((i : Int) + 1) (v 3 0).toNat) := by rw [tk_, if_neg (fun z => z.elim (fun z => z h29) (fun z => absurd z (by omega))), if_pos (by omega)]
                exact V_cg (ih (by omega)) (by rw [e0]; simp) rfl rfl
theorem ct_X7_takeOf {s : Int} (hs : wS_ v s) (hW : WF_ v) (hM : HM_ v σ) (h : post (some (vi_ (tk_ v s.toNat (ns_ v - 1)).1)) σ) : V_ l D mX7_takeOf (CM_ D mX7_takeOf post) 0 [some (vr_ 38), some (vi_ s), none, none, none, none] [] σ := by
  have ws := hW.s
  have wn := hW.n
  have wl := hW.l
  have wk := hW.k
  have hns := ns_rg hW
  have wz := hW.si (k := s.toNat) (by omega)
  refine V_iconst (pc := 0) dX7_takeOf_0 ?_
  refine V_istore_n (pc := 1) dX7_takeOf_1 rfl (by decide) rfl ?_
  show V_ _ _ _ _ _ [_, _, _, _, _, _] _ _
  refine V_iconst (pc := 2) dX7_takeOf_2 ?_
  refine V_istore_n (pc := 3) dX7_takeOf_3 rfl (by decide) rfl ?_
  show V_ _ _ _ _ _ [_, _, _, _, _, _] _ _
  refine V_iload_n (pc := 4) dX7_takeOf_4 rfl rfl ?_
  refine V_iconst (pc := 5) dX7_takeOf_5 ?_
  refine V_aload_n (pc := 6) dX7_takeOf_6 rfl rfl ?_
  refine V_getr (pc := 7) dX7_takeOf_7 fX7_28 rfl gg_38 rfl ?_
  refine V_iconst (pc := 10) dX7_takeOf_10 ?_
  refine V_iald (pc := 11) dX7_takeOf_11 gg_45 (by decide) (by decide) (fun r11 => ?_)
  rw [show σ 45 (1 : Int).toNat = v 3 0 from hM.1.2.1] at r11 ⊢
  refine V_ishl (pc := 12) dX7_takeOf_12 ?_
  rw [ns_sh hW]
  refine V_icmp_ge (tgt := 106) (pc := 13) dX7_takeOf_13 (by decide) (by constructor <;> omega) (by constructor <;> omega) (fun h13 => by exact absurd h13 (by omega)) (fun h13 => ?_)
  refine V_aload_n (pc := 16) dX7_takeOf_16 rfl rfl ?_
  refine V_iload_n (pc := 17) dX7_takeOf_17 rfl rfl ?_
  refine V_callV (pc := 18) (as := [_]) (rest := []) dX7_takeOf_18 ⟨kX7_219, iX7_haveAll, by decide, by decide⟩ rc_38 rfl rfl (Nat.le_of_ble_eq_true rfl) (Nat.le_of_ble_eq_true rfl) ?_
  refine ct_X7_haveAll hW hM (by decide) ?_
  rw [hs_0]
  show V_ _ _ _ _ _ _ [_] _
  refine V_istore (pc := 21) dX7_takeOf_21 (by decide) rfl ?_
  show V_ _ _ _ _ _ [_, _, _, _, _, _] _ _
  refine V_iload_n (pc := 23) dX7_takeOf_23 rfl rfl ?_
  refine V_aload_n (pc := 24) dX7_takeOf_24 rfl rfl ?_
  refine V_geti (pc := 25) dX7_takeOf_25 fX7_136 rfl gg_38 rfl (fun r25 => ?_)
  rw [hM.2.2.2.2] at r25 ⊢
  refine V_iand (pc := 28) dX7_takeOf_28 ?_
  refine V_if_ne (tgt := 100) (pc := 29) dX7_takeOf_29 (by decide) (i3_rg _) (fun h29 => ?_) (fun h29 => ?_)
  · skip
    refine V_iinc (pc := 100) dX7_takeOf_100 rfl (by decide) rfl ?_
    refine V_goto (tgt := 4) (pc := 103) dX7_takeOf_103 (by decide) ?_
    refine V_none (k := 4) ?_
    exact V_cg (lp_X7_takeOf hs hW hM h 0 (Nat.zero_le _)) (by simp [tk_]) rfl rfl
  · skip
    refine V_iload (pc := 32) dX7_takeOf_32 rfl ?_
    refine V_aload_n (pc := 34) dX7_takeOf_34 rfl rfl ?_
    refine V_getr (pc := 35) dX7_takeOf_35 fX7_31 rfl gg_38 rfl ?_
    refine V_iconst (pc := 38) dX7_takeOf_38 ?_
    refine V_iload_n (pc := 39) dX7_takeOf_39 rfl rfl ?_
    refine V_imul (pc := 40) dX7_takeOf_40 ?_
    refine V_iald (pc := 41) dX7_takeOf_41 gg_46 (by omega) (by decide) (fun r41 => ?_)
    rw [show (2 * s).toNat = 2 * s.toNat by omega, (hM.si (k := s.toNat) (by omega)).1] at r41 ⊢
    refine V_icmp_lt (tgt := 100) (pc := 42) dX7_takeOf_42 (by decide) (by constructor <;> omega) (by constructor <;> omega) (fun h42 => ?_) (fun h42 => by exact absurd h42 (by omega))
    refine V_iinc (pc := 100) dX7_takeOf_100 rfl (by decide) rfl ?_
    refine V_goto (tgt := 4) (pc := 103) dX7_takeOf_103 (by decide) ?_
    refine V_none (k := 4) ?_
    exact V_cg (lp_X7_takeOf hs hW hM h 0 (Nat.zero_le _)) (by simp [tk_]) rfl rfl
end
