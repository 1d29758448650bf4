/-! ## class DrownedNamesModel: what the digest is told -/
theorem aq_ship0 {a : Mm_} {k : Nat} (hk : (k : Int) < vv_ a 0 0) : vv_ a 1 k = an_ship a (k : Int) 0 := by
  symm
  unfold an_ship
  rw [if_pos (by omega)] <;> rfl
theorem aq_ship1 {a : Mm_} {k : Nat} (hk : (k : Int) < vv_ a 0 0) : vv_ a 2 k = an_ship a (k : Int) 1 := by
  symm
  unfold an_ship
  rw [if_pos (by omega)] <;> rfl
theorem aq_unborne {a : Mm_} {k : Nat} (hk : (k : Int) < vv_ a 0 0) : bo_ (vv_ a) (k : Int) (-1) (vv_ a 7 0).toNat = an_unborne a (k : Int) := by
  symm
  unfold an_unborne
  rw [if_pos (by omega)] <;> rfl
theorem aq_paid {a : Mm_} {k : Nat} (hk : (k : Int) < vv_ a 0 0) : li_ (vv_ a) (uu_ a) (9 + 1) 1 k = an_paid a 9 (k : Int) := by
  symm
  unfold an_paid
  rw [if_pos (by omega)] <;> rfl
theorem aq_take {a : Mm_} {k : Nat} (hk : (k : Int) < vv_ a 0 0) : (tk_ (vv_ a) ((k : Int)).toNat (ns_ (vv_ a) - 1)).1 = an_take a (k : Int) := by
  symm
  unfold an_take
  rw [if_pos (by omega)] <;> rfl
theorem aq_left {a : Mm_} {k : Nat} (hk : (k : Int) < vv_ a 3 0) : li_ (vv_ a) (uu_ a) (9 + 1) 0 k = an_left a 9 (k : Int) := by
  symm
  unfold an_left
  rw [if_pos (by omega)] <;> rfl
theorem aq_bearer {a : Mm_} {k : Nat} (hk : (k : Int) < vv_ a 3 0) {w : Int} (hw : 0 ≤ w ∧ w ≤ 2) : (if w = 0 then bb_ (vv_ a) (k : Int) else if w = 1 then bs_ (fun j => decide (bb_ (vv_ a) (j : Int) = (k : Int))) (vv_ a 3 0).toNat else if bb_ (vv_ a) (k : Int) = -1 then 1 else 0) = an_bearer a (k : Int) w := by
  symm
  unfold an_bearer
  rw [if_neg (by omega)]
  (repeat' split) <;> first | rfl | omega
theorem aq_fair {a : Mm_} {k : Nat} (hk : (k : Int) < vv_ a 3 0) {w : Int} (hw : 0 ≤ w ∧ w ≤ 1) : pt2_ (fr_ (vv_ a) (k : Int) (vv_ a 0 0).toNat) 16 w = an_fair a (k : Int) w := by
  symm
  unfold an_fair
  rw [if_pos (by omega)] <;> rfl
theorem aq_storm {a : Mm_} {k : Nat} (hk : (k : Int) < vv_ a 3 0) {w : Int} (hw : 0 ≤ w ∧ w ≤ 1) : pt2_ (sn_ (vv_ a) ((k : Int)).toNat 9 (ss_ (vv_ a))).1 (sn_ (vv_ a) ((k : Int)).toNat 9 (ss_ (vv_ a))).2 w = an_storm a (k : Int) 9 w := by
  symm
  unfold an_storm
  rw [if_pos (by omega)] <;> rfl
theorem aq_years {a : Mm_} {k : Nat} (hk : (k : Int) < vv_ a 3 0) {w : Int} (hw : 0 ≤ w ∧ w ≤ 1) : (if w = 0 then (lo_ (vv_ a) 7 9).2 0 ((k : Int)).toNat else pc_ ((lo_ (vv_ a) 7 9).2 2 0)) = an_years a 7 9 (k : Int) w := by
  symm
  unfold an_years
  rw [if_pos (by omega)] <;> rfl
theorem aq_line {a : Mm_} {k : Nat} (hk : (k : Int) < vv_ a 7 0) {w : Int} (hw : 0 ≤ w ∧ w ≤ 3) : (if w = 0 then vv_ a 8 k else if w = 1 then vv_ a 9 k else if w = 2 then vv_ a 10 k else du_ (vv_ a) k) = an_line a (k : Int) w := by
  symm
  unfold an_line
  rw [if_neg (by omega)]
  simp only [Int.toNat_natCast]
  (repeat' split) <;> first | rfl | omega
theorem aq_name {a σ : Mm_} (hM : HM_ (vv_ a) σ) {k j : Nat} (hk : (k : Int) < vv_ a 3 0) (hj : j < 3) : σ 47 (3 * k + j) = an_name a (k : Int) (j : Int) := by
  have hs := hM.ni hk
  unfold an_name
  rw [if_neg (by omega)]
  rcases (show j = 0 ∨ j = 1 ∨ j = 2 by omega) with rfl | rfl | rfl
  · rw [if_pos (by omega)]; exact hs.1
  · rw [if_neg (by omega), if_pos (by omega)]; exact hs.2.1
  · rw [if_neg (by omega), if_neg (by omega), if_pos (by omega)]; exact hs.2.2
section
variable {l : Launch} {D : Dt_} {a σ : Mm_} {post : Option Av_ → Mm_ → Prop}
theorem c2_X7_borne {s : Int} (h_s : Rg_ s) {k : Int} (h_k : Rg_ k) (h : MR_ a σ) (hK : ∀ τ, MR_ a τ → HM_ (vv_ a) τ → Gm_ σ τ → post (some (vi_ (an_borne a s k))) τ) : V_ l D mX7_borne (CM_ D mX7_borne post) 0 [some (vr_ 38), some (vi_ s), some (vi_ k)] [] σ := by
  have hA := h.1
  have hW := vv_WF hA
  have ws := hW.s
  have wn := hW.n
  have wl := hW.l
  refine V_aload_n (pc := 0) dX7_borne_0 rfl rfl ?_
  refine V_callV (pc := 1) (as := []) (rest := []) dX7_borne_1 ⟨kX7_124, iX7_reads, by decide, by decide⟩ rc_38 rfl rfl (Nat.le_of_ble_eq_true rfl) (Nat.le_of_ble_eq_true rfl) ?_
  refine ct_X7_reads h (fun τ hM hQ hP => ?_)
  have hsd := hQ.2.2.1.2.2
  have hL : LM_ (uu_ a) τ := hQ.2.2.2.1
  have hG : GM_ (ww_ a) τ := hQ.2.2.2.2.1
  show V_ _ _ _ _ _ _ [] _
  refine V_aload_n (pc := 4) dX7_borne_4 rfl rfl ?_
  refine V_iload_n (pc := 5) dX7_borne_5 rfl rfl ?_
  refine V_callV (pc := 6) (as := [_]) (rest := []) dX7_borne_6 ⟨kX7_127, iX7_isShip, by decide, by decide⟩ rc_38 rfl rfl (Nat.le_of_ble_eq_true rfl) (Nat.le_of_ble_eq_true rfl) ?_
  refine ct_X7_isShip (by first | assumption | exact b2_rg | decide | (constructor <;> omega)) hM.1.1 (by omega) ?_
  show V_ _ _ _ _ _ _ [_] _
  refine V_if_eq (tgt := 29) (pc := 9) dX7_borne_9 (by decide) b2_rg (fun h9 => ?_) (fun h9 => ?_)
  · skip
    rw [b2_0] at h9
    have e : an_borne a s k = -2 := by unfold an_borne; rw [if_neg (by omega)]
    refine V_bipush (pc := 29) dX7_borne_29 (by decide) ?_
    refine V_ireturn (pc := 31) dX7_borne_31 rfl rfl (fun hR => ?_)
    first
      | exact rt_ e.symm (hK _ hQ hM hP.gm)
      | exact rt_ (by unfold an_borne; rw [if_pos (by omega)] <;> rfl) (hK _ hQ hM hP.gm)
  · skip
    rw [b2_n0] at h9
    refine V_aload_n (pc := 12) dX7_borne_12 rfl rfl ?_
    refine V_iload_n (pc := 13) dX7_borne_13 rfl rfl ?_
    refine V_callV (pc := 14) (as := [_]) (rest := []) dX7_borne_14 ⟨kX7_133, iX7_isName, by decide, by decide⟩ rc_38 rfl rfl (Nat.le_of_ble_eq_true rfl) (Nat.le_of_ble_eq_true rfl) ?_
    refine ct_X7_isName (by first | assumption | exact b2_rg | decide | (constructor <;> omega)) hM.1.2.1 (by omega) ?_
    show V_ _ _ _ _ _ _ [_] _
    refine V_if_eq (tgt := 29) (pc := 17) dX7_borne_17 (by decide) b2_rg (fun h17 => ?_) (fun h17 => ?_)
    · skip
      rw [b2_0] at h17
      have e : an_borne a s k = -2 := by unfold an_borne; rw [if_neg (by omega)]
      refine V_bipush (pc := 29) dX7_borne_29 (by decide) ?_
      refine V_ireturn (pc := 31) dX7_borne_31 rfl rfl (fun hR => ?_)
      first
        | exact rt_ e.symm (hK _ hQ hM hP.gm)
        | exact rt_ (by unfold an_borne; rw [if_pos (by omega)] <;> rfl) (hK _ hQ hM hP.gm)
    · skip
      rw [b2_n0] at h17
      refine V_aload_n (pc := 20) dX7_borne_20 rfl rfl ?_
      refine V_iload_n (pc := 21) dX7_borne_21 rfl rfl ?_
      refine V_iload_n (pc := 22) dX7_borne_22 rfl rfl ?_
      refine V_callV (pc := 23) (as := [_, _]) (rest := []) dX7_borne_23 ⟨kX7_161, iX7_borneOf, by decide, by decide⟩ rc_38 rfl rfl (Nat.le_of_ble_eq_true rfl) (Nat.le_of_ble_eq_true rfl) ?_
      refine ct_X7_borneOf hW hM h_s h_k ?_
      show V_ _ _ _ _ _ _ [_] _
      refine V_goto (tgt := 31) (pc := 26) dX7_borne_26 (by decide) ?_
      refine V_ireturn (pc := 31) dX7_borne_31 rfl rfl (fun hR => ?_)
      first
        | exact rt_ e.symm (hK _ hQ hM hP.gm)
        | exact rt_ (by unfold an_borne; rw [if_pos (by omega)] <;> rfl) (hK _ hQ hM hP.gm)
theorem c2_X7_strike {k : Int} (h_k : Rg_ k) {z : Int} (h_z : Rg_ z) (h : MR_ a σ) (hK : ∀ τ, MR_ a τ → HM_ (vv_ a) τ → Gm_ σ τ → post (some (vi_ (an_strike a k z))) τ) : V_ l D mX7_strike (CM_ D mX7_strike post) 0 [some (vr_ 38), some (vi_ k), some (vi_ z)] [] σ := by
  have hA := h.1
  have hW := vv_WF hA
  have ws := hW.s
  have wn := hW.n
  have wl := hW.l
  refine V_aload_n (pc := 0) dX7_strike_0 rfl rfl ?_
  refine V_callV (pc := 1) (as := []) (rest := []) dX7_strike_1 ⟨kX7_124, iX7_reads, by decide, by decide⟩ rc_38 rfl rfl (Nat.le_of_ble_eq_true rfl) (Nat.le_of_ble_eq_true rfl) ?_
  refine ct_X7_reads h (fun τ hM hQ hP => ?_)
  have hsd := hQ.2.2.1.2.2
  have hL : LM_ (uu_ a) τ := hQ.2.2.2.1
  have hG : GM_ (ww_ a) τ := hQ.2.2.2.2.1
  show V_ _ _ _ _ _ _ [] _
  refine V_aload_n (pc := 4) dX7_strike_4 rfl rfl ?_
  refine V_iload_n (pc := 5) dX7_strike_5 rfl rfl ?_
  refine V_callV (pc := 6) (as := [_]) (rest := []) dX7_strike_6 ⟨kX7_133, iX7_isName, by decide, by decide⟩ rc_38 rfl rfl (Nat.le_of_ble_eq_true rfl) (Nat.le_of_ble_eq_true rfl) ?_
  refine ct_X7_isName (by first | assumption | exact b2_rg | decide | (constructor <;> omega)) hM.1.2.1 (by omega) ?_
  show V_ _ _ _ _ _ _ [_] _
  refine V_if_eq (tgt := 29) (pc := 9) dX7_strike_9 (by decide) b2_rg (fun h9 => ?_) (fun h9 => ?_)
  · skip
    rw [b2_0] at h9
    have e : an_strike a k z = -1002 := by unfold an_strike; rw [if_neg (by omega)]
    refine V_sipush (pc := 29) dX7_strike_29 (by decide) ?_
    refine V_ireturn (pc := 32) dX7_strike_32 rfl rfl (fun hR => ?_)
    first
      | exact rt_ e.symm (hK _ hQ hM hP.gm)
      | exact rt_ (by unfold an_strike; rw [if_pos (by omega)] <;> rfl) (hK _ hQ hM hP.gm)
  · skip
    rw [b2_n0] at h9
    refine V_aload_n (pc := 12) dX7_strike_12 rfl rfl ?_
    refine V_iload_n (pc := 13) dX7_strike_13 rfl rfl ?_
    refine V_callV (pc := 14) (as := [_]) (rest := []) dX7_strike_14 ⟨kX7_133, iX7_isName, by decide, by decide⟩ rc_38 rfl rfl (Nat.le_of_ble_eq_true rfl) (Nat.le_of_ble_eq_true rfl) ?_
    refine ct_X7_isName (by first | assumption | exact b2_rg | decide | (constructor <;> omega)) hM.1.2.1 (by omega) ?_
    show V_ _ _ _ _ _ _ [_] _
    refine V_if_eq (tgt := 29) (pc := 17) dX7_strike_17 (by decide) b2_rg (fun h17 => ?_) (fun h17 => ?_)
    · skip
      rw [b2_0] at h17
      have e : an_strike a k z = -1002 := by unfold an_strike; rw [if_neg (by omega)]
      refine V_sipush (pc := 29) dX7_strike_29 (by decide) ?_
      refine V_ireturn (pc := 32) dX7_strike_32 rfl rfl (fun hR => ?_)
      first
        | exact rt_ e.symm (hK _ hQ hM hP.gm)
        | exact rt_ (by unfold an_strike; rw [if_pos (by omega)] <;> rfl) (hK _ hQ hM hP.gm)
    · skip
      rw [b2_n0] at h17
      refine V_aload_n (pc := 20) dX7_strike_20 rfl rfl ?_
      refine V_iload_n (pc := 21) dX7_strike_21 rfl rfl ?_
      refine V_iload_n (pc := 22) dX7_strike_22 rfl rfl ?_
      refine V_callV (pc := 23) (as := [_, _]) (rest := []) dX7_strike_23 ⟨kX7_231, iX7_strikeOf, by decide, by decide⟩ rc_38 rfl rfl (Nat.le_of_ble_eq_true rfl) (Nat.le_of_ble_eq_true rfl) ?_
      refine ct_X7_strikeOf hW hM h9 h17 ?_
      show V_ _ _ _ _ _ _ [_] _
      refine V_goto (tgt := 32) (pc := 26) dX7_strike_26 (by decide) ?_
      refine V_ireturn (pc := 32) dX7_strike_32 rfl rfl (fun hR => ?_)
      first
        | exact rt_ e.symm (hK _ hQ hM hP.gm)
        | exact rt_ (by unfold an_strike; rw [if_pos (by omega)] <;> rfl) (hK _ hQ hM hP.gm)
theorem ct_X7_tellsShip {g : Int} {k : Nat} (hk : (k : Int) < vv_ a 0 0) (h : MR_ a σ) (hM : HM_ (vv_ a) σ) (hK : ∀ τ, MR_ a τ → HM_ (vv_ a) τ → Gm_ σ τ → post (some (vl_ (ds_ a g (k : Int)))) τ) : V_ l D mX7_tellsShip (CM_ D mX7_tellsShip post) 0 [some (vr_ 38), some (vl_ g), none, some (vi_ (k : Int)), none, none] [] σ := by
  have hA := h.1
  have hW := vv_WF hA
  have ws := hW.s
  have wn := hW.n
  have wl := hW.l
  have hQ := h
  have hg : Gm_ σ σ := Gm_.rf
  refine V_ldc2 (v := (31)) (z := 31) (pc := 0) dX7_tellsShip_0 (tb_in 1177 (by decide +kernel) rfl) (by decide +kernel) ?_
  refine V_lload_n (pc := 3) dX7_tellsShip_3 rfl rfl ?_
  refine V_lmul (pc := 4) dX7_tellsShip_4 ?_
  refine V_aload_n (pc := 5) dX7_tellsShip_5 rfl rfl ?_
  refine V_getr (pc := 6) dX7_tellsShip_6 fX7_31 rfl gg_38 rfl ?_
  refine V_iconst (pc := 9) dX7_tellsShip_9 ?_
  refine V_iload_n (pc := 10) dX7_tellsShip_10 rfl rfl ?_
  refine V_imul (pc := 11) dX7_tellsShip_11 ?_
  refine V_iald (pc := 12) dX7_tellsShip_12 gg_46 (by omega) (by decide) (fun r12 => ?_)
  rw [show (2 * (k : Int)).toNat = 2 * k by omega, (hM.si hk).1, aq_ship0 hk] at r12 ⊢
  refine V_i2ln (pc := 13) dX7_tellsShip_13 ?_
  refine V_ladd (pc := 14) dX7_tellsShip_14 ?_
  refine V_lstore (pc := 15) dX7_tellsShip_15 (by decide) rfl ?_
  show V_ _ _ _ _ _ [_, _, _, _, _, _] _ _
  refine V_ldc2 (v := (31)) (z := 31) (pc := 17) dX7_tellsShip_17 (tb_in 1177 (by decide +kernel) rfl) (by decide +kernel) ?_
  refine V_lload (pc := 20) dX7_tellsShip_20 rfl ?_
  refine V_lmul (pc := 22) dX7_tellsShip_22 ?_
  refine V_aload_n (pc := 23) dX7_tellsShip_23 rfl rfl ?_
  refine V_getr (pc := 24) dX7_tellsShip_24 fX7_31 rfl gg_38 rfl ?_
  refine V_iconst (pc := 27) dX7_tellsShip_27 ?_
  refine V_iload_n (pc := 28) dX7_tellsShip_28 rfl rfl ?_
  refine V_imul (pc := 29) dX7_tellsShip_29 ?_
  refine V_iconst (pc := 30) dX7_tellsShip_30 ?_
  refine V_iadd (pc := 31) dX7_tellsShip_31 ?_
  refine V_iald (pc := 32) dX7_tellsShip_32 gg_46 (by omega) (by decide) (fun r32 => ?_)
  rw [show (2 * (k : Int) + 1).toNat = 2 * k + 1 by omega, (hM.si hk).2, aq_ship1 hk] at r32 ⊢
  refine V_i2ln (pc := 33) dX7_tellsShip_33 ?_
  refine V_ladd (pc := 34) dX7_tellsShip_34 ?_
  refine V_lstore (pc := 35) dX7_tellsShip_35 (by decide) rfl ?_
  show V_ _ _ _ _ _ [_, _, _, _, _, _] _ _
  refine V_ldc2 (v := (31)) (z := 31) (pc := 37) dX7_tellsShip_37 (tb_in 1177 (by decide +kernel) rfl) (by decide +kernel) ?_
  refine V_lload (pc := 40) dX7_tellsShip_40 rfl ?_
  refine V_lmul (pc := 42) dX7_tellsShip_42 ?_
  refine V_aload_n (pc := 43) dX7_tellsShip_43 rfl rfl ?_
  refine V_iload_n (pc := 44) dX7_tellsShip_44 rfl rfl ?_
  refine V_iconst (pc := 45) dX7_tellsShip_45 ?_
  refine V_callV (pc := 46) (as := [_, _]) (rest := [_]) dX7_tellsShip_46 ⟨kX7_161, iX7_borneOf, by decide, by decide⟩ rc_38 rfl rfl (Nat.le_of_ble_eq_true rfl) (Nat.le_of_ble_eq_true rfl) ?_
  refine ct_X7_borneOf hW hM (by constructor <;> omega) (by decide) ?_
  rw [aq_unborne hk]
  show V_ _ _ _ _ _ _ [_, _] _
  refine V_i2ln (pc := 49) dX7_tellsShip_49 ?_
  refine V_ladd (pc := 50) dX7_tellsShip_50 ?_
  refine V_lstore (pc := 51) dX7_tellsShip_51 (by decide) rfl ?_
  show V_ _ _ _ _ _ [_, _, _, _, _, _] _ _
  refine V_ldc2 (v := (31)) (z := 31) (pc := 53) dX7_tellsShip_53 (tb_in 1177 (by decide +kernel) rfl) (by decide +kernel) ?_
  refine V_lload (pc := 56) dX7_tellsShip_56 rfl ?_
  refine V_lmul (pc := 58) dX7_tellsShip_58 ?_
  refine V_aload_n (pc := 59) dX7_tellsShip_59 rfl rfl ?_
  refine V_iload_n (pc := 60) dX7_tellsShip_60 rfl rfl ?_
  refine V_iconst (pc := 61) dX7_tellsShip_61 ?_
  refine V_callV (pc := 62) (as := [_, _]) (rest := [_]) dX7_tellsShip_62 ⟨kX7_286, iX7_borne, by decide, by decide⟩ rc_38 rfl rfl (Nat.le_of_ble_eq_true rfl) (Nat.le_of_ble_eq_true rfl) ?_
  refine c2_X7_borne (by constructor <;> omega) (by decide) hQ (fun τ hB1 hB2 hB3 => ?_)
  have hg := hg.tr hB3
  have hQ := hB1
  have hM := hB2
  show V_ _ _ _ _ _ _ [_, _] _
  refine V_i2ln (pc := 65) dX7_tellsShip_65 ?_
  refine V_ladd (pc := 66) dX7_tellsShip_66 ?_
  refine V_lstore (pc := 67) dX7_tellsShip_67 (by decide) rfl ?_
  show V_ _ _ _ _ _ [_, _, _, _, _, _] _ _
  refine V_ldc2 (v := (31)) (z := 31) (pc := 69) dX7_tellsShip_69 (tb_in 1177 (by decide +kernel) rfl) (by decide +kernel) ?_
  refine V_lload (pc := 72) dX7_tellsShip_72 rfl ?_
  refine V_lmul (pc := 74) dX7_tellsShip_74 ?_
  refine V_aload_n (pc := 75) dX7_tellsShip_75 rfl rfl ?_
  refine V_bipush (pc := 76) dX7_tellsShip_76 (by decide) ?_
  refine V_iload_n (pc := 78) dX7_tellsShip_78 rfl rfl ?_
  refine V_callV (pc := 79) (as := [_, _]) (rest := [_]) dX7_tellsShip_79 ⟨kX7_206, iX7_paidOf, by decide, by decide⟩ rc_38 rfl rfl (Nat.le_of_ble_eq_true rfl) (Nat.le_of_ble_eq_true rfl) ?_
  refine ct_X7_paidOf hW hQ.1.2.2.2.1 (Y := 9) (by decide) hM (show LM_ (uu_ a) _ from hQ.2.2.2.1) hQ.2.2.1.2.2 (s := k) (by omega) (fun τ hB => ?_)
  have hQ := hQ.pf hB.pf
  have hM := hM.f4 hB
  have hg := hg.tr hB.pf.gm
  rw [aq_paid hk]
  show V_ _ _ _ _ _ _ [_, _] _
  refine V_i2ln (pc := 82) dX7_tellsShip_82 ?_
  refine V_ladd (pc := 83) dX7_tellsShip_83 ?_
  refine V_lstore (pc := 84) dX7_tellsShip_84 (by decide) rfl ?_
  show V_ _ _ _ _ _ [_, _, _, _, _, _] _ _
  refine V_ldc2 (v := (31)) (z := 31) (pc := 86) dX7_tellsShip_86 (tb_in 1177 (by decide +kernel) rfl) (by decide +kernel) ?_
  refine V_lload (pc := 89) dX7_tellsShip_89 rfl ?_
  refine V_lmul (pc := 91) dX7_tellsShip_91 ?_
  refine V_aload_n (pc := 92) dX7_tellsShip_92 rfl rfl ?_
  refine V_iload_n (pc := 93) dX7_tellsShip_93 rfl rfl ?_
  refine V_callV (pc := 94) (as := [_]) (rest := [_]) dX7_tellsShip_94 ⟨kX7_225, iX7_takeOf, by decide, by decide⟩ rc_38 rfl rfl (Nat.le_of_ble_eq_true rfl) (Nat.le_of_ble_eq_true rfl) ?_
  refine ct_X7_takeOf (by omega) hW hM ?_
  rw [aq_take hk]
  show V_ _ _ _ _ _ _ [_, _] _
  refine V_i2ln (pc := 97) dX7_tellsShip_97 ?_
  refine V_ladd (pc := 98) dX7_tellsShip_98 ?_
  refine V_lreturn (pc := 99) dX7_tellsShip_99 rfl (fun hR => ?_)
  exact hK _ hQ hM hg
theorem lq_X7_tellsName {g : Int} {k : Nat} (hk : (k : Int) < vv_ a 3 0) (hK : ∀ τ, MR_ a τ → HM_ (vv_ a) τ → Gm_ σ τ → post (some (vl_ (dn_ a g (k : Int)))) τ) : ∀ i : Nat, i ≤ 3 → ∀ τ, MR_ a τ → HM_ (vv_ a) τ → Gm_ σ τ → V_ l D mX7_tellsName (CM_ D mX7_tellsName post) 42 [some (vr_ 38), some (vl_ g), none, some (vi_ (k : Int)), some (vl_ (fo_ (fun j h => dg_ h (an_bearer a (k : Int) (j : Int))) i (fo_ (fun j h => dg_ h (an_name a (k : Int) (j : Int))) 3 g))), none, some (vi_ (i : Int))] [] τ := by
  refine up_ _ (fun i hi ih τ hQ hM hg => ?_)
  have hW := vv_WF hQ.1
  have wn := hW.n
  refine V_iload (pc := 42) dX7_tellsName_42 rfl ?_
  refine V_iconst (pc := 44) dX7_tellsName_44 ?_
  refine V_icmp_ge (tgt := 71) (pc := 45) dX7_tellsName_45 (by decide) (by first | decide | (constructor <;> omega)) (by first | decide | (constructor <;> omega)) (fun h45 => ?_) (fun h45 => ?_)
  · skip
    refine V_ldc2 (v := (31)) (z := 31) (pc := 71) dX7_tellsName_71 (tb_in 1177 (by decide +kernel) rfl) (by decide +kernel) ?_
    refine V_lload (pc := 74) dX7_tellsName_74 rfl ?_
    refine V_lmul (pc := 76) dX7_tellsName_76 ?_
    refine V_aload_n (pc := 77) dX7_tellsName_77 rfl rfl ?_
    refine V_bipush (pc := 78) dX7_tellsName_78 (by decide) ?_
    refine V_iload_n (pc := 80) dX7_tellsName_80 rfl rfl ?_
    refine V_callV (pc := 81) (as := [_, _]) (rest := [_]) dX7_tellsName_81 ⟨kX7_200, iX7_leftOf, by decide, by decide⟩ rc_38 rfl rfl (Nat.le_of_ble_eq_true rfl) (Nat.le_of_ble_eq_true rfl) ?_
    refine ct_X7_leftOf hW hQ.1.2.2.2.1 (Y := 9) (by decide) hM (show LM_ (uu_ a) _ from hQ.2.2.2.1) hQ.2.2.1.2.2 (k := k) hk (fun τ hB => ?_)
    have hQ := hQ.pf hB.pf
    have hM := hM.f4 hB
    have hg := hg.tr hB.pf.gm
    rw [aq_left hk]
    show V_ _ _ _ _ _ _ [_, _] _
    refine V_i2ln (pc := 84) dX7_tellsName_84 ?_
    refine V_ladd (pc := 85) dX7_tellsName_85 ?_
    refine V_lstore (pc := 86) dX7_tellsName_86 (by decide) rfl ?_
    show V_ _ _ _ _ _ [_, _, _, _, _, _, _] _ _
    refine V_ldc2 (v := (31)) (z := 31) (pc := 88) dX7_tellsName_88 (tb_in 1177 (by decide +kernel) rfl) (by decide +kernel) ?_
    refine V_lload (pc := 91) dX7_tellsName_91 rfl ?_
    refine V_lmul (pc := 93) dX7_tellsName_93 ?_
    refine V_aload_n (pc := 94) dX7_tellsName_94 rfl rfl ?_
    refine V_iconst (pc := 95) dX7_tellsName_95 ?_
    refine V_iload_n (pc := 96) dX7_tellsName_96 rfl rfl ?_
    refine V_callV (pc := 97) (as := [_, _]) (rest := [_]) dX7_tellsName_97 ⟨kX7_289, iX7_strike, by decide, by decide⟩ rc_38 rfl rfl (Nat.le_of_ble_eq_true rfl) (Nat.le_of_ble_eq_true rfl) ?_
    refine c2_X7_strike (by decide) (by constructor <;> omega) hQ (fun τ hB1 hB2 hB3 => ?_)
    have hg := hg.tr hB3
    have hQ := hB1
    have hM := hB2
    show V_ _ _ _ _ _ _ [_, _] _
    refine V_i2ln (pc := 100) dX7_tellsName_100 ?_
    refine V_ladd (pc := 101) dX7_tellsName_101 ?_
    refine V_lstore (pc := 102) dX7_tellsName_102 (by decide) rfl ?_
    show V_ _ _ _ _ _ [_, _, _, _, _, _, _] _ _
    refine V_ldc2 (v := (31)) (z := 31) (pc := 104) dX7_tellsName_104 (tb_in 1177 (by decide +kernel) rfl) (by decide +kernel) ?_
    refine V_lload (pc := 107) dX7_tellsName_107 rfl ?_
    refine V_lmul (pc := 109) dX7_tellsName_109 ?_
    refine V_aload_n (pc := 110) dX7_tellsName_110 rfl rfl ?_
    refine V_iload_n (pc := 111) dX7_tellsName_111 rfl rfl ?_
    refine V_iconst (pc := 112) dX7_tellsName_112 ?_
    refine V_callV (pc := 113) (as := [_, _]) (rest := [_]) dX7_tellsName_113 ⟨kX7_257, iX7_fairOf, by decide, by decide⟩ rc_38 rfl rfl (Nat.le_of_ble_eq_true rfl) (Nat.le_of_ble_eq_true rfl) ?_
    refine ct_X7_fairOf hW hM (by omega) (by decide) ?_
    rw [aq_fair hk (by decide)]
    show V_ _ _ _ _ _ _ [_, _] _
    refine V_ladd (pc := 116) dX7_tellsName_116 ?_
    refine V_lstore (pc := 117) dX7_tellsName_117 (by decide) rfl ?_
    show V_ _ _ _ _ _ [_, _, _, _, _, _, _] _ _
    refine V_ldc2 (v := (31)) (z := 31) (pc := 119) dX7_tellsName_119 (tb_in 1177 (by decide +kernel) rfl) (by decide +kernel) ?_
    refine V_lload (pc := 122) dX7_tellsName_122 rfl ?_
    refine V_lmul (pc := 124) dX7_tellsName_124 ?_
    refine V_aload_n (pc := 125) dX7_tellsName_125 rfl rfl ?_
    refine V_iload_n (pc := 126) dX7_tellsName_126 rfl rfl ?_
    refine V_iconst (pc := 127) dX7_tellsName_127 ?_
    refine V_callV (pc := 128) (as := [_, _]) (rest := [_]) dX7_tellsName_128 ⟨kX7_257, iX7_fairOf, by decide, by decide⟩ rc_38 rfl rfl (Nat.le_of_ble_eq_true rfl) (Nat.le_of_ble_eq_true rfl) ?_
    refine ct_X7_fairOf hW hM (by omega) (by decide) ?_
    rw [aq_fair hk (by decide)]
    show V_ _ _ _ _ _ _ [_, _] _
    refine V_ladd (pc := 131) dX7_tellsName_131 ?_
    refine V_lstore (pc := 132) dX7_tellsName_132 (by decide) rfl ?_
    show V_ _ _ _ _ _ [_, _, _, _, _, _, _] _ _
    refine V_ldc2 (v := (31)) (z := 31) (pc := 134) dX7_tellsName_134 (tb_in 1177 (by decide +kernel) rfl) (by decide +kernel) ?_
    refine V_lload (pc := 137) dX7_tellsName_137 rfl ?_
    refine V_lmul (pc := 139) dX7_tellsName_139 ?_
    refine V_aload_n (pc := 140) dX7_tellsName_140 rfl rfl ?_
    refine V_iload_n (pc := 141) dX7_tellsName_141 rfl rfl ?_
    refine V_bipush (pc := 142) dX7_tellsName_142 (by decide) ?_
    refine V_iconst (pc := 144) dX7_tellsName_144 ?_
    refine V_callV (pc := 145) (as := [_, _, _]) (rest := [_]) dX7_tellsName_145 ⟨kX7_267, iX7_stormOf, by decide, by decide⟩ rc_38 rfl rfl (Nat.le_of_ble_eq_true rfl) (Nat.le_of_ble_eq_true rfl) ?_
    refine ct_X7_stormOf hW (by omega) (by decide) (by decide) hM hQ.2.2.1.2.2 (fun τ hB => ?_)
    have hQ := hQ.pf hB.pf
    have hM := hM.f4 hB
    have hg := hg.tr hB.pf.gm
    rw [aq_storm hk (by decide)]
    show V_ _ _ _ _ _ _ [_, _] _
    refine V_ladd (pc := 148) dX7_tellsName_148 ?_
    refine V_lstore (pc := 149) dX7_tellsName_149 (by decide) rfl ?_
    show V_ _ _ _ _ _ [_, _, _, _, _, _, _] _ _
    refine V_ldc2 (v := (31)) (z := 31) (pc := 151) dX7_tellsName_151 (tb_in 1177 (by decide +kernel) rfl) (by decide +kernel) ?_
    refine V_lload (pc := 154) dX7_tellsName_154 rfl ?_
    refine V_lmul (pc := 156) dX7_tellsName_156 ?_
    refine V_aload_n (pc := 157) dX7_tellsName_157 rfl rfl ?_
    refine V_iload_n (pc := 158) dX7_tellsName_158 rfl rfl ?_
    refine V_bipush (pc := 159) dX7_tellsName_159 (by decide) ?_
    refine V_iconst (pc := 161) dX7_tellsName_161 ?_
    refine V_callV (pc := 162) (as := [_, _, _]) (rest := [_]) dX7_tellsName_162 ⟨kX7_267, iX7_stormOf, by decide, by decide⟩ rc_38 rfl rfl (Nat.le_of_ble_eq_true rfl) (Nat.le_of_ble_eq_true rfl) ?_
    refine ct_X7_stormOf hW (by omega) (by decide) (by decide) hM hQ.2.2.1.2.2 (fun τ hB => ?_)
    have hQ := hQ.pf hB.pf
    have hM := hM.f4 hB
    have hg := hg.tr hB.pf.gm
    rw [aq_storm hk (by decide)]
    show V_ _ _ _ _ _ _ [_, _] _
    refine V_ladd (pc := 165) dX7_tellsName_165 ?_
    refine V_lstore (pc := 166) dX7_tellsName_166 (by decide) rfl ?_
    show V_ _ _ _ _ _ [_, _, _, _, _, _, _] _ _
    refine V_ldc2 (v := (31)) (z := 31) (pc := 168) dX7_tellsName_168 (tb_in 1177 (by decide +kernel) rfl) (by decide +kernel) ?_
    refine V_lload (pc := 171) dX7_tellsName_171 rfl ?_
    refine V_lmul (pc := 173) dX7_tellsName_173 ?_
    refine V_aload_n (pc := 174) dX7_tellsName_174 rfl rfl ?_
    refine V_bipush (pc := 175) dX7_tellsName_175 (by decide) ?_
    refine V_bipush (pc := 177) dX7_tellsName_177 (by decide) ?_
    refine V_iload_n (pc := 179) dX7_tellsName_179 rfl rfl ?_
    refine V_iconst (pc := 180) dX7_tellsName_180 ?_
    refine V_callV (pc := 181) (as := [_, _, _, _]) (rest := [_]) dX7_tellsName_181 ⟨kX7_280, iX7_yearsOf, by decide, by decide⟩ rc_38 rfl rfl (Nat.le_of_ble_eq_true rfl) (Nat.le_of_ble_eq_true rfl) ?_
    refine ct_X7_yearsOf hW (N := 9) (by decide) (by omega) (by decide) (by decide) hM hQ.2.2.1.2.2 (fun τ hB => ?_)
    have hQ := hQ.pf hB.pf
    have hM := hM.f7 hB
    have hg := hg.tr hB.pf.gm
    rw [aq_years hk (by decide)]
    show V_ _ _ _ _ _ _ [_, _] _
    refine V_i2ln (pc := 184) dX7_tellsName_184 ?_
    refine V_ladd (pc := 185) dX7_tellsName_185 ?_
    refine V_lstore (pc := 186) dX7_tellsName_186 (by decide) rfl ?_
    show V_ _ _ _ _ _ [_, _, _, _, _, _, _] _ _
    refine V_ldc2 (v := (31)) (z := 31) (pc := 188) dX7_tellsName_188 (tb_in 1177 (by decide +kernel) rfl) (by decide +kernel) ?_
    refine V_lload (pc := 191) dX7_tellsName_191 rfl ?_
    refine V_lmul (pc := 193) dX7_tellsName_193 ?_
    refine V_aload_n (pc := 194) dX7_tellsName_194 rfl rfl ?_
    refine V_bipush (pc := 195) dX7_tellsName_195 (by decide) ?_
    refine V_bipush (pc := 197) dX7_tellsName_197 (by decide) ?_
    refine V_iload_n (pc := 199) dX7_tellsName_199 rfl rfl ?_
    refine V_iconst (pc := 200) dX7_tellsName_200 ?_
    refine V_callV (pc := 201) (as := [_, _, _, _]) (rest := [_]) dX7_tellsName_201 ⟨kX7_280, iX7_yearsOf, by decide, by decide⟩ rc_38 rfl rfl (Nat.le_of_ble_eq_true rfl) (Nat.le_of_ble_eq_true rfl) ?_
    refine ct_X7_yearsOf hW (N := 9) (by decide) (by omega) (by decide) (by decide) hM hQ.2.2.1.2.2 (fun τ hB => ?_)
    have hQ := hQ.pf hB.pf
    have hM := hM.f7 hB
    have hg := hg.tr hB.pf.gm
    rw [aq_years hk (by decide)]
    show V_ _ _ _ _ _ _ [_, _] _
    refine V_i2ln (pc := 204) dX7_tellsName_204 ?_
    refine V_ladd (pc := 205) dX7_tellsName_205 ?_
    refine V_lreturn (pc := 206) dX7_tellsName_206 rfl (fun hR => ?_)
    rw [show i = 3 by omega]
    exact hK _ hQ hM hg
  · skip
    refine V_ldc2 (v := (31)) (z := 31) (pc := 48) dX7_tellsName_48 (tb_in 1177 (by decide +kernel) rfl) (by decide +kernel) ?_
    refine V_lload (pc := 51) dX7_tellsName_51 rfl ?_
    refine V_lmul (pc := 53) dX7_tellsName_53 ?_
    refine V_aload_n (pc := 54) dX7_tellsName_54 rfl rfl ?_
    refine V_iload_n (pc := 55) dX7_tellsName_55 rfl rfl ?_
    refine V_iload (pc := 56) dX7_tellsName_56 rfl ?_
    refine V_callV (pc := 58) (as := [_, _]) (rest := [_]) dX7_tellsName_58 ⟨kX7_158, iX7_bearerBy, by decide, by decide⟩ rc_38 rfl rfl (Nat.le_of_ble_eq_true rfl) (Nat.le_of_ble_eq_true rfl) ?_
    refine ct_X7_bearerBy hW hM (by omega) (by omega) ?_
    rw [aq_bearer hk (by omega)]
    show V_ _ _ _ _ _ _ [_, _] _
    refine V_i2ln (pc := 61) dX7_tellsName_61 ?_
    refine V_ladd (pc := 62) dX7_tellsName_62 ?_
    refine V_lstore (pc := 63) dX7_tellsName_63 (by decide) rfl ?_
    show V_ _ _ _ _ _ [_, _, _, _, _, _, _] _ _
    refine V_iinc (pc := 65) dX7_tellsName_65 rfl (by decide) rfl ?_
    show V_ _ _ _ _ _ [_, _, _, _, _, _, _] _ _
    refine V_goto (tgt := 42) (pc := 68) dX7_tellsName_68 (by decide) ?_
    exact V_cg (ih (by omega) _ hQ hM hg) (by simp [fo_, dg_]) rfl rfl
theorem lp_X7_tellsName {g : Int} {k : Nat} (hk : (k : Int) < vv_ a 3 0) (hK : ∀ τ, MR_ a τ → HM_ (vv_ a) τ → Gm_ σ τ → post (some (vl_ (dn_ a g (k : Int)))) τ) : ∀ i : Nat, i ≤ 3 → ∀ τ, MR_ a τ → HM_ (vv_ a) τ → Gm_ σ τ → V_ l D mX7_tellsName (CM_ D mX7_tellsName post) 6 [some (vr_ 38), some (vl_ g), none, some (vi_ (k : Int)), some (vl_ (fo_ (fun j h => dg_ h (an_name a (k : Int) (j : Int))) i g)), none, some (vi_ (i : Int))] [] τ := by
  refine up_ _ (fun i hi ih τ hQ hM hg => ?_)
  have wn := (vv_WF hQ.1).n
  refine V_iload (pc := 6) dX7_tellsName_6 rfl ?_
  refine V_iconst (pc := 8) dX7_tellsName_8 ?_
  refine V_icmp_ge (tgt := 39) (pc := 9) dX7_tellsName_9 (by decide) (by first | decide | (constructor <;> omega)) (by first | decide | (constructor <;> omega)) (fun h9 => ?_) (fun h9 => ?_)
  · skip
    refine V_iconst (pc := 39) dX7_tellsName_39 ?_
    refine V_istore (pc := 40) dX7_tellsName_40 (by decide) rfl ?_
    show V_ _ _ _ _ _ [_, _, _, _, _, _, _] _ _
    exact V_cg (lq_X7_tellsName hk hK 0 (Nat.zero_le _) _ hQ hM hg) (by rw [show i = 3 by omega]; simp [fo_]) rfl rfl
  · skip
    refine V_ldc2 (v := (31)) (z := 31) (pc := 12) dX7_tellsName_12 (tb_in 1177 (by decide +kernel) rfl) (by decide +kernel) ?_
    refine V_lload (pc := 15) dX7_tellsName_15 rfl ?_
    refine V_lmul (pc := 17) dX7_tellsName_17 ?_
    refine V_aload_n (pc := 18) dX7_tellsName_18 rfl rfl ?_
    refine V_getr (pc := 19) dX7_tellsName_19 fX7_34 rfl gg_38 rfl ?_
    refine V_iconst (pc := 22) dX7_tellsName_22 ?_
    refine V_iload_n (pc := 23) dX7_tellsName_23 rfl rfl ?_
    refine V_imul (pc := 24) dX7_tellsName_24 ?_
    refine V_iload (pc := 25) dX7_tellsName_25 rfl ?_
    refine V_iadd (pc := 27) dX7_tellsName_27 ?_
    refine V_iald (pc := 28) dX7_tellsName_28 gg_47 (by omega) (by decide) (fun r28 => ?_)
    rw [show (3 * (k : Int) + (i : Int)).toNat = 3 * k + i by omega, aq_name hM hk (by omega)] at r28 ⊢
    refine V_i2ln (pc := 29) dX7_tellsName_29 ?_
    refine V_ladd (pc := 30) dX7_tellsName_30 ?_
    refine V_lstore (pc := 31) dX7_tellsName_31 (by decide) rfl ?_
    show V_ _ _ _ _ _ [_, _, _, _, _, _, _] _ _
    refine V_iinc (pc := 33) dX7_tellsName_33 rfl (by decide) rfl ?_
    show V_ _ _ _ _ _ [_, _, _, _, _, _, _] _ _
    refine V_goto (tgt := 6) (pc := 36) dX7_tellsName_36 (by decide) ?_
    exact V_cg (ih (by omega) _ hQ hM hg) (by simp [fo_, dg_]) rfl rfl
theorem ct_X7_tellsName {g : Int} {k : Nat} (hk : (k : Int) < vv_ a 3 0) (h : MR_ a σ) (hM : HM_ (vv_ a) σ) (hK : ∀ τ, MR_ a τ → HM_ (vv_ a) τ → Gm_ σ τ → post (some (vl_ (dn_ a g (k : Int)))) τ) : V_ l D mX7_tellsName (CM_ D mX7_tellsName post) 0 [some (vr_ 38), some (vl_ g), none, some (vi_ (k : Int)), none, none, none] [] σ := by
  refine V_lload_n (pc := 0) dX7_tellsName_0 rfl rfl ?_
  refine V_lstore (pc := 1) dX7_tellsName_1 (by decide) rfl ?_
  show V_ _ _ _ _ _ [_, _, _, _, _, _, _] _ _
  refine V_iconst (pc := 3) dX7_tellsName_3 ?_
  refine V_istore (pc := 4) dX7_tellsName_4 (by decide) rfl ?_
  show V_ _ _ _ _ _ [_, _, _, _, _, _, _] _ _
  exact V_cg (lp_X7_tellsName hk hK 0 (Nat.zero_le _) _ h hM Gm_.rf) (by simp [fo_]) rfl rfl
end
