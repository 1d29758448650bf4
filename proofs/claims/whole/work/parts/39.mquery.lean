/-! ## class DrownedNamesModel: public questions -/
def Gm_ (σ τ : Mm_) : Prop := ∀ q, q < 38 → τ q = σ q
theorem Pf_.gm {σ τ : Mm_} (h : Pf_ σ τ) : Gm_ σ τ := fun q hq => h.1 q (Or.inl hq)
theorem Gm_.rf {σ : Mm_} : Gm_ σ σ := fun _ _ => rfl
theorem Gm_.tr {σ τ ρ : Mm_} (h : Gm_ σ τ) (h2 : Gm_ τ ρ) : Gm_ σ ρ := fun q hq => (h2 q hq).trans (h q hq)
section
variable {l : Launch} {D : Dt_} {a σ : Mm_} {post : Option Av_ → Mm_ → Prop}
theorem ct_X7_ship {k : Int} (h_k : Rg_ k) {w : Int} (h_w : Rg_ w) (h : MR_ a σ) (hK : ∀ τ, MR_ a τ → Gm_ σ τ → post (some (vi_ (an_ship a k w))) τ) : V_ l D mX7_ship (CM_ D mX7_ship post) 0 [some (vr_ 38), some (vi_ k), some (vi_ w)] [] σ := by
  have hA := h.1
  have hW := vv_WF hA
  have hU : LW_ (uu_ a) := hA.2.2.2.1
  have hw : WW_ (ww_ a) := hA.2.2.2.2.1
  have ws := hW.s
  have wn := hW.n
  have wl := hW.l
  refine V_aload_n (pc := 0) dX7_ship_0 rfl rfl ?_
  refine V_callV (pc := 1) (as := []) (rest := []) dX7_ship_1 ⟨kX7_124, iX7_reads, by decide, by decide⟩ rc_38 rfl rfl (Nat.le_of_ble_eq_true rfl) (Nat.le_of_ble_eq_true rfl) ?_
  refine ct_X7_reads h (fun τ hM hQ hP => ?_)
  have hsd := hQ.2.2.1.2.2
  have hL : LM_ (uu_ a) τ := hQ.2.2.2.1
  have hG : GM_ (ww_ a) τ := hQ.2.2.2.2.1
  show V_ _ _ _ _ _ _ [] _
  refine V_aload_n (pc := 4) dX7_ship_4 rfl rfl ?_
  refine V_iload_n (pc := 5) dX7_ship_5 rfl rfl ?_
  refine V_callV (pc := 6) (as := [_]) (rest := []) dX7_ship_6 ⟨kX7_127, iX7_isShip, by decide, by decide⟩ rc_38 rfl rfl (Nat.le_of_ble_eq_true rfl) (Nat.le_of_ble_eq_true rfl) ?_
  refine ct_X7_isShip (by first | assumption | exact b2_rg | decide | (constructor <;> omega)) hM.1.1 (by omega) ?_
  show V_ _ _ _ _ _ _ [_] _
  refine V_if_eq (tgt := 32) (pc := 9) dX7_ship_9 (by decide) b2_rg (fun h9 => ?_) (fun h9 => ?_)
  · skip
    rw [b2_0] at h9
    have e : an_ship a k w = -2 := by unfold an_ship; rw [if_neg (by omega)]
    refine V_bipush (pc := 32) dX7_ship_32 (by decide) ?_
    refine V_ireturn (pc := 34) dX7_ship_34 rfl rfl (fun hR => ?_)
    first | exact rt_ e.symm (hK _ hQ hP.gm) | exact rt_ (by unfold an_ship; rw [if_pos (by omega), e28]) (hK _ hQ hP.gm)
  · skip
    rw [b2_n0] at h9
    refine V_iload_n (pc := 12) dX7_ship_12 rfl rfl ?_
    refine V_callS (pc := 13) (as := [_]) (rest := []) dX7_ship_13 ⟨kX7_130, sX7_isTwo, by decide, by decide⟩ rfl rfl (Nat.le_of_ble_eq_true rfl) (Nat.le_of_ble_eq_true rfl) ?_
    refine ct_X7_isTwo (by first | assumption | exact b2_rg | decide | (constructor <;> omega)) ?_
    show V_ _ _ _ _ _ _ [_] _
    refine V_if_eq (tgt := 32) (pc := 16) dX7_ship_16 (by decide) b2_rg (fun h16 => ?_) (fun h16 => ?_)
    · skip
      rw [b2_0] at h16
      have e : an_ship a k w = -2 := by unfold an_ship; rw [if_neg (by omega)]
      refine V_bipush (pc := 32) dX7_ship_32 (by decide) ?_
      refine V_ireturn (pc := 34) dX7_ship_34 rfl rfl (fun hR => ?_)
      first | exact rt_ e.symm (hK _ hQ hP.gm) | exact rt_ (by unfold an_ship; rw [if_pos (by omega), e28]) (hK _ hQ hP.gm)
    · skip
      rw [b2_n0] at h16
      refine V_aload_n (pc := 19) dX7_ship_19 rfl rfl ?_
      refine V_getr (pc := 20) dX7_ship_20 fX7_31 rfl gg_38 rfl ?_
      refine V_iconst (pc := 23) dX7_ship_23 ?_
      refine V_iload_n (pc := 24) dX7_ship_24 rfl rfl ?_
      refine V_imul (pc := 25) dX7_ship_25 ?_
      refine V_iload_n (pc := 26) dX7_ship_26 rfl rfl ?_
      refine V_iadd (pc := 27) dX7_ship_27 ?_
      refine V_iald (pc := 28) dX7_ship_28 gg_46 (by omega) (by decide) (fun r28 => ?_)
      have e28 : τ 46 (2 * k + w).toNat = if w = 0 then vv_ a 1 k.toNat else vv_ a 2 k.toNat := by
        have hs := hM.si (k := k.toNat) (by omega)
        by_cases c : w = 0
        · rw [if_pos c, show (2 * k + w).toNat = 2 * k.toNat by omega]; exact hs.1
        · rw [if_neg c, show (2 * k + w).toNat = 2 * k.toNat + 1 by omega]; exact hs.2
      refine V_goto (tgt := 34) (pc := 29) dX7_ship_29 (by decide) ?_
      refine V_ireturn (pc := 34) dX7_ship_34 rfl rfl (fun hR => ?_)
      first | exact rt_ e.symm (hK _ hQ hP.gm) | exact rt_ (by unfold an_ship; rw [if_pos (by omega), e28]) (hK _ hQ hP.gm)
theorem ct_X7_name {k : Int} (h_k : Rg_ k) {w : Int} (h_w : Rg_ w) (h : MR_ a σ) (hK : ∀ τ, MR_ a τ → Gm_ σ τ → post (some (vi_ (an_name a k w))) τ) : V_ l D mX7_name (CM_ D mX7_name post) 0 [some (vr_ 38), some (vi_ k), some (vi_ w)] [] σ := by
  have hA := h.1
  have hW := vv_WF hA
  have hU : LW_ (uu_ a) := hA.2.2.2.1
  have hw : WW_ (ww_ a) := hA.2.2.2.2.1
  have ws := hW.s
  have wn := hW.n
  have wl := hW.l
  refine V_aload_n (pc := 0) dX7_name_0 rfl rfl ?_
  refine V_callV (pc := 1) (as := []) (rest := []) dX7_name_1 ⟨kX7_124, iX7_reads, by decide, by decide⟩ rc_38 rfl rfl (Nat.le_of_ble_eq_true rfl) (Nat.le_of_ble_eq_true rfl) ?_
  refine ct_X7_reads h (fun τ hM hQ hP => ?_)
  have hsd := hQ.2.2.1.2.2
  have hL : LM_ (uu_ a) τ := hQ.2.2.2.1
  have hG : GM_ (ww_ a) τ := hQ.2.2.2.2.1
  show V_ _ _ _ _ _ _ [] _
  refine V_aload_n (pc := 4) dX7_name_4 rfl rfl ?_
  refine V_iload_n (pc := 5) dX7_name_5 rfl rfl ?_
  refine V_callV (pc := 6) (as := [_]) (rest := []) dX7_name_6 ⟨kX7_133, iX7_isName, by decide, by decide⟩ rc_38 rfl rfl (Nat.le_of_ble_eq_true rfl) (Nat.le_of_ble_eq_true rfl) ?_
  refine ct_X7_isName (by first | assumption | exact b2_rg | decide | (constructor <;> omega)) hM.1.2.1 (by omega) ?_
  show V_ _ _ _ _ _ _ [_] _
  refine V_if_eq (tgt := 37) (pc := 9) dX7_name_9 (by decide) b2_rg (fun h9 => ?_) (fun h9 => ?_)
  · skip
    rw [b2_0] at h9
    have e : an_name a k w = -2 := by unfold an_name; (repeat' split) <;> first | rfl | omega
    refine V_bipush (pc := 37) dX7_name_37 (by decide) ?_
    refine V_ireturn (pc := 39) dX7_name_39 rfl rfl (fun hR => ?_)
    first
      | exact rt_ e.symm (hK _ hQ hP.gm)
      | exact rt_ (by unfold an_name; rw [if_neg (by omega), if_neg (by omega), if_neg (by omega), if_neg (by omega)]) (hK _ hQ hP.gm)
      | exact rt_ (by unfold an_name; rw [if_neg (by omega), e33]) (hK _ hQ hP.gm)
  · skip
    rw [b2_n0] at h9
    refine V_iload_n (pc := 12) dX7_name_12 rfl rfl ?_
    refine V_i2l (pc := 13) dX7_name_13 (by first | assumption | exact b2_rg | decide | (constructor <;> omega)) ?_
    refine V_lconst (z := 0) (pc := 14) dX7_name_14 rfl ?_
    refine V_ldc2 (v := (2)) (z := 2) (pc := 15) dX7_name_15 (tb_in 833 (by decide +kernel) rfl) (by decide +kernel) ?_
    refine V_callS (pc := 18) (as := [_, _, _]) (rest := []) dX7_name_18 ⟨kX7_61, sX7_in, by decide, by decide⟩ rfl rfl (Nat.le_of_ble_eq_true rfl) (Nat.le_of_ble_eq_true rfl) ?_
    refine ct_X7_in (by constructor <;> omega) (by constructor <;> omega) (by constructor <;> omega) ?_
    show V_ _ _ _ _ _ _ [_] _
    refine V_if_eq (tgt := 37) (pc := 21) dX7_name_21 (by decide) b2_rg (fun h21 => ?_) (fun h21 => ?_)
    · skip
      rw [b2_0] at h21
      have e : an_name a k w = -2 := by unfold an_name; (repeat' split) <;> first | rfl | omega
      refine V_bipush (pc := 37) dX7_name_37 (by decide) ?_
      refine V_ireturn (pc := 39) dX7_name_39 rfl rfl (fun hR => ?_)
      first
        | exact rt_ e.symm (hK _ hQ hP.gm)
        | exact rt_ (by unfold an_name; rw [if_neg (by omega), if_neg (by omega), if_neg (by omega), if_neg (by omega)]) (hK _ hQ hP.gm)
        | exact rt_ (by unfold an_name; rw [if_neg (by omega), e33]) (hK _ hQ hP.gm)
    · skip
      rw [b2_n0] at h21
      refine V_aload_n (pc := 24) dX7_name_24 rfl rfl ?_
      refine V_getr (pc := 25) dX7_name_25 fX7_34 rfl gg_38 rfl ?_
      refine V_iconst (pc := 28) dX7_name_28 ?_
      refine V_iload_n (pc := 29) dX7_name_29 rfl rfl ?_
      refine V_imul (pc := 30) dX7_name_30 ?_
      refine V_iload_n (pc := 31) dX7_name_31 rfl rfl ?_
      refine V_iadd (pc := 32) dX7_name_32 ?_
      refine V_iald (pc := 33) dX7_name_33 gg_47 (by omega) (by decide) (fun r33 => ?_)
      have e33 : τ 47 (3 * k + w).toNat = if w = 0 then vv_ a 4 k.toNat else if w = 1 then vv_ a 6 k.toNat else if w = 2 then vv_ a 5 k.toNat else -2 := by
        have hs := hM.ni (k := k.toNat) (by omega)
        by_cases c : w = 0
        · rw [if_pos c, show (3 * k + w).toNat = 3 * k.toNat by omega]; exact hs.1
        · by_cases c1 : w = 1
          · rw [if_neg c, if_pos c1, show (3 * k + w).toNat = 3 * k.toNat + 1 by omega]; exact hs.2.1
          · rw [if_neg c, if_neg c1, if_pos (by omega), show (3 * k + w).toNat = 3 * k.toNat + 2 by omega]; exact hs.2.2
      refine V_goto (tgt := 39) (pc := 34) dX7_name_34 (by decide) ?_
      refine V_ireturn (pc := 39) dX7_name_39 rfl rfl (fun hR => ?_)
      first
        | exact rt_ e.symm (hK _ hQ hP.gm)
        | exact rt_ (by unfold an_name; rw [if_neg (by omega), if_neg (by omega), if_neg (by omega), if_neg (by omega)]) (hK _ hQ hP.gm)
        | exact rt_ (by unfold an_name; rw [if_neg (by omega), e33]) (hK _ hQ hP.gm)
theorem ct_X7_line {k : Int} (h_k : Rg_ k) {w : Int} (h_w : Rg_ w) (h : MR_ a σ) (hK : ∀ τ, MR_ a τ → Gm_ σ τ → post (some (vi_ (an_line a k w))) τ) : V_ l D mX7_line (CM_ D mX7_line post) 0 [some (vr_ 38), some (vi_ k), some (vi_ w)] [] σ := by
  have hA := h.1
  have hW := vv_WF hA
  have hU : LW_ (uu_ a) := hA.2.2.2.1
  have hw : WW_ (ww_ a) := hA.2.2.2.2.1
  have ws := hW.s
  have wn := hW.n
  have wl := hW.l
  refine V_aload_n (pc := 0) dX7_line_0 rfl rfl ?_
  refine V_callV (pc := 1) (as := []) (rest := []) dX7_line_1 ⟨kX7_124, iX7_reads, by decide, by decide⟩ rc_38 rfl rfl (Nat.le_of_ble_eq_true rfl) (Nat.le_of_ble_eq_true rfl) ?_
  refine ct_X7_reads h (fun τ hM hQ hP => ?_)
  have hsd := hQ.2.2.1.2.2
  have hL : LM_ (uu_ a) τ := hQ.2.2.2.1
  have hG : GM_ (ww_ a) τ := hQ.2.2.2.2.1
  show V_ _ _ _ _ _ _ [] _
  refine V_iload_n (pc := 4) dX7_line_4 rfl rfl ?_
  refine V_i2l (pc := 5) dX7_line_5 (by first | assumption | exact b2_rg | decide | (constructor <;> omega)) ?_
  refine V_lconst (z := 0) (pc := 6) dX7_line_6 rfl ?_
  refine V_aload_n (pc := 7) dX7_line_7 rfl rfl ?_
  refine V_getr (pc := 8) dX7_line_8 fX7_28 rfl gg_38 rfl ?_
  refine V_iconst (pc := 11) dX7_line_11 ?_
  refine V_iald (pc := 12) dX7_line_12 gg_45 (by decide) (by decide) (fun r12 => ?_)
  rw [show τ 45 (2 : Int).toNat = vv_ a 7 0 from hM.1.2.2] at r12 ⊢
  refine V_iconst (pc := 13) dX7_line_13 ?_
  refine V_isub (pc := 14) dX7_line_14 ?_
  refine V_i2l (pc := 15) dX7_line_15 (by first | assumption | exact b2_rg | decide | (constructor <;> omega)) ?_
  refine V_callS (pc := 16) (as := [_, _, _]) (rest := []) dX7_line_16 ⟨kX7_61, sX7_in, by decide, by decide⟩ rfl rfl (Nat.le_of_ble_eq_true rfl) (Nat.le_of_ble_eq_true rfl) ?_
  refine ct_X7_in (by constructor <;> omega) (by constructor <;> omega) (by constructor <;> omega) ?_
  show V_ _ _ _ _ _ _ [_] _
  refine V_if_eq (tgt := 43) (pc := 19) dX7_line_19 (by decide) b2_rg (fun h19 => ?_) (fun h19 => ?_)
  · skip
    rw [b2_0] at h19
    have e : an_line a k w = -2 := by unfold an_line; (repeat' split) <;> first | rfl | omega
    refine V_bipush (pc := 43) dX7_line_43 (by decide) ?_
    refine V_ireturn (pc := 45) dX7_line_45 rfl rfl (fun hR => ?_)
    first
      | exact rt_ e.symm (hK _ hQ hP.gm)
      | exact rt_ (by unfold an_line; rw [if_neg (by omega), if_neg (by omega), if_neg (by omega), if_neg (by omega), if_neg (by omega)]) (hK _ hQ hP.gm)
      | exact rt_ (by
          unfold an_line
          simp only [Int.toNat_natCast]
          (repeat' split) <;> first | rfl | omega) (hK _ hQ hP.gm)
  · skip
    rw [b2_n0] at h19
    refine V_iload_n (pc := 22) dX7_line_22 rfl rfl ?_
    refine V_i2l (pc := 23) dX7_line_23 (by first | assumption | exact b2_rg | decide | (constructor <;> omega)) ?_
    refine V_lconst (z := 0) (pc := 24) dX7_line_24 rfl ?_
    refine V_ldc2 (v := (3)) (z := 3) (pc := 25) dX7_line_25 (tb_in 829 (by decide +kernel) rfl) (by decide +kernel) ?_
    refine V_callS (pc := 28) (as := [_, _, _]) (rest := []) dX7_line_28 ⟨kX7_61, sX7_in, by decide, by decide⟩ rfl rfl (Nat.le_of_ble_eq_true rfl) (Nat.le_of_ble_eq_true rfl) ?_
    refine ct_X7_in (by constructor <;> omega) (by constructor <;> omega) (by constructor <;> omega) ?_
    show V_ _ _ _ _ _ _ [_] _
    refine V_if_eq (tgt := 43) (pc := 31) dX7_line_31 (by decide) b2_rg (fun h31 => ?_) (fun h31 => ?_)
    · skip
      rw [b2_0] at h31
      have e : an_line a k w = -2 := by unfold an_line; (repeat' split) <;> first | rfl | omega
      refine V_bipush (pc := 43) dX7_line_43 (by decide) ?_
      refine V_ireturn (pc := 45) dX7_line_45 rfl rfl (fun hR => ?_)
      first
        | exact rt_ e.symm (hK _ hQ hP.gm)
        | exact rt_ (by unfold an_line; rw [if_neg (by omega), if_neg (by omega), if_neg (by omega), if_neg (by omega), if_neg (by omega)]) (hK _ hQ hP.gm)
        | exact rt_ (by
            unfold an_line
            simp only [Int.toNat_natCast]
            (repeat' split) <;> first | rfl | omega) (hK _ hQ hP.gm)
    · skip
      rw [b2_n0] at h31
      refine V_aload_n (pc := 34) dX7_line_34 rfl rfl ?_
      refine V_iload_n (pc := 35) dX7_line_35 rfl rfl ?_
      refine V_iload_n (pc := 36) dX7_line_36 rfl rfl ?_
      refine V_callV (pc := 37) (as := [_, _]) (rest := []) dX7_line_37 ⟨kX7_149, iX7_lineOf, by decide, by decide⟩ rc_38 rfl rfl (Nat.le_of_ble_eq_true rfl) (Nat.le_of_ble_eq_true rfl) ?_
      obtain ⟨j, rfl⟩ := i_nat h19.1
      refine ct_X7_lineOf hW hM (by omega) (by omega) ?_
      show V_ _ _ _ _ _ _ [_] _
      refine V_goto (tgt := 45) (pc := 40) dX7_line_40 (by decide) ?_
      refine V_ireturn (pc := 45) dX7_line_45 rfl rfl (fun hR => ?_)
      first
        | exact rt_ e.symm (hK _ hQ hP.gm)
        | exact rt_ (by unfold an_line; rw [if_neg (by omega), if_neg (by omega), if_neg (by omega), if_neg (by omega), if_neg (by omega)]) (hK _ hQ hP.gm)
        | exact rt_ (by
            unfold an_line
            simp only [Int.toNat_natCast]
            (repeat' split) <;> first | rfl | omega) (hK _ hQ hP.gm)
theorem ct_X7_bearer {k : Int} (h_k : Rg_ k) {w : Int} (h_w : Rg_ w) (h : MR_ a σ) (hK : ∀ τ, MR_ a τ → Gm_ σ τ → post (some (vi_ (an_bearer a k w))) τ) : V_ l D mX7_bearer (CM_ D mX7_bearer post) 0 [some (vr_ 38), some (vi_ k), some (vi_ w)] [] σ := by
  have hA := h.1
  have hW := vv_WF hA
  have hU : LW_ (uu_ a) := hA.2.2.2.1
  have hw : WW_ (ww_ a) := hA.2.2.2.2.1
  have ws := hW.s
  have wn := hW.n
  have wl := hW.l
  refine V_aload_n (pc := 0) dX7_bearer_0 rfl rfl ?_
  refine V_callV (pc := 1) (as := []) (rest := []) dX7_bearer_1 ⟨kX7_124, iX7_reads, by decide, by decide⟩ rc_38 rfl rfl (Nat.le_of_ble_eq_true rfl) (Nat.le_of_ble_eq_true rfl) ?_
  refine ct_X7_reads h (fun τ hM hQ hP => ?_)
  have hsd := hQ.2.2.1.2.2
  have hL : LM_ (uu_ a) τ := hQ.2.2.2.1
  have hG : GM_ (ww_ a) τ := hQ.2.2.2.2.1
  show V_ _ _ _ _ _ _ [] _
  refine V_aload_n (pc := 4) dX7_bearer_4 rfl rfl ?_
  refine V_iload_n (pc := 5) dX7_bearer_5 rfl rfl ?_
  refine V_callV (pc := 6) (as := [_]) (rest := []) dX7_bearer_6 ⟨kX7_133, iX7_isName, by decide, by decide⟩ rc_38 rfl rfl (Nat.le_of_ble_eq_true rfl) (Nat.le_of_ble_eq_true rfl) ?_
  refine ct_X7_isName (by first | assumption | exact b2_rg | decide | (constructor <;> omega)) hM.1.2.1 (by omega) ?_
  show V_ _ _ _ _ _ _ [_] _
  refine V_if_eq (tgt := 33) (pc := 9) dX7_bearer_9 (by decide) b2_rg (fun h9 => ?_) (fun h9 => ?_)
  · skip
    rw [b2_0] at h9
    have e : an_bearer a k w = -2 := by unfold an_bearer; (repeat' split) <;> first | rfl | omega
    refine V_bipush (pc := 33) dX7_bearer_33 (by decide) ?_
    refine V_ireturn (pc := 35) dX7_bearer_35 rfl rfl (fun hR => ?_)
    first
      | exact rt_ e.symm (hK _ hQ hP.gm)
      | exact rt_ (by unfold an_bearer; rw [if_neg (by omega), if_neg (by omega), if_neg (by omega), if_neg (by omega)]) (hK _ hQ hP.gm)
      | exact rt_ (by
          unfold an_bearer
          (repeat' split) <;> first | rfl | omega) (hK _ hQ hP.gm)
  · skip
    rw [b2_n0] at h9
    refine V_iload_n (pc := 12) dX7_bearer_12 rfl rfl ?_
    refine V_i2l (pc := 13) dX7_bearer_13 (by first | assumption | exact b2_rg | decide | (constructor <;> omega)) ?_
    refine V_lconst (z := 0) (pc := 14) dX7_bearer_14 rfl ?_
    refine V_ldc2 (v := (2)) (z := 2) (pc := 15) dX7_bearer_15 (tb_in 833 (by decide +kernel) rfl) (by decide +kernel) ?_
    refine V_callS (pc := 18) (as := [_, _, _]) (rest := []) dX7_bearer_18 ⟨kX7_61, sX7_in, by decide, by decide⟩ rfl rfl (Nat.le_of_ble_eq_true rfl) (Nat.le_of_ble_eq_true rfl) ?_
    refine ct_X7_in (by constructor <;> omega) (by constructor <;> omega) (by constructor <;> omega) ?_
    show V_ _ _ _ _ _ _ [_] _
    refine V_if_eq (tgt := 33) (pc := 21) dX7_bearer_21 (by decide) b2_rg (fun h21 => ?_) (fun h21 => ?_)
    · skip
      rw [b2_0] at h21
      have e : an_bearer a k w = -2 := by unfold an_bearer; (repeat' split) <;> first | rfl | omega
      refine V_bipush (pc := 33) dX7_bearer_33 (by decide) ?_
      refine V_ireturn (pc := 35) dX7_bearer_35 rfl rfl (fun hR => ?_)
      first
        | exact rt_ e.symm (hK _ hQ hP.gm)
        | exact rt_ (by unfold an_bearer; rw [if_neg (by omega), if_neg (by omega), if_neg (by omega), if_neg (by omega)]) (hK _ hQ hP.gm)
        | exact rt_ (by
            unfold an_bearer
            (repeat' split) <;> first | rfl | omega) (hK _ hQ hP.gm)
    · skip
      rw [b2_n0] at h21
      refine V_aload_n (pc := 24) dX7_bearer_24 rfl rfl ?_
      refine V_iload_n (pc := 25) dX7_bearer_25 rfl rfl ?_
      refine V_iload_n (pc := 26) dX7_bearer_26 rfl rfl ?_
      refine V_callV (pc := 27) (as := [_, _]) (rest := []) dX7_bearer_27 ⟨kX7_158, iX7_bearerBy, by decide, by decide⟩ rc_38 rfl rfl (Nat.le_of_ble_eq_true rfl) (Nat.le_of_ble_eq_true rfl) ?_
      refine ct_X7_bearerBy hW hM h9 (by omega) ?_
      show V_ _ _ _ _ _ _ [_] _
      refine V_goto (tgt := 35) (pc := 30) dX7_bearer_30 (by decide) ?_
      refine V_ireturn (pc := 35) dX7_bearer_35 rfl rfl (fun hR => ?_)
      first
        | exact rt_ e.symm (hK _ hQ hP.gm)
        | exact rt_ (by unfold an_bearer; rw [if_neg (by omega), if_neg (by omega), if_neg (by omega), if_neg (by omega)]) (hK _ hQ hP.gm)
        | exact rt_ (by
            unfold an_bearer
            (repeat' split) <;> first | rfl | omega) (hK _ hQ hP.gm)
theorem ct_X7_borne {s : Int} (h_s : Rg_ s) {k : Int} (h_k : Rg_ k) (h : MR_ a σ) (hK : ∀ τ, MR_ a τ → Gm_ σ τ → post (some (vi_ (an_borne a s k))) τ) : V_ l D mX7_borne (CM_ D mX7_borne post) 0 [some (vr_ 38), some (vi_ s), some (vi_ k)] [] σ := by
  have hA := h.1
  have hW := vv_WF hA
  have hU : LW_ (uu_ a) := hA.2.2.2.1
  have hw : WW_ (ww_ a) := hA.2.2.2.2.1
  have ws := hW.s
  have wn := hW.n
  have wl := hW.l
  refine V_aload_n (pc := 0) dX7_borne_0 rfl rfl ?_
  refine V_callV (pc := 1) (as := []) (rest := []) dX7_borne_1 ⟨kX7_124, iX7_reads, by decide, by decide⟩ rc_38 rfl rfl (Nat.le_of_ble_eq_true rfl) (Nat.le_of_ble_eq_true rfl) ?_
  refine ct_X7_reads h (fun τ hM hQ hP => ?_)
  have hsd := hQ.2.2.1.2.2
  have hL : LM_ (uu_ a) τ := hQ.2.2.2.1
  have hG : GM_ (ww_ a) τ := hQ.2.2.2.2.1
  show V_ _ _ _ _ _ _ [] _
  refine V_aload_n (pc := 4) dX7_borne_4 rfl rfl ?_
  refine V_iload_n (pc := 5) dX7_borne_5 rfl rfl ?_
  refine V_callV (pc := 6) (as := [_]) (rest := []) dX7_borne_6 ⟨kX7_127, iX7_isShip, by decide, by decide⟩ rc_38 rfl rfl (Nat.le_of_ble_eq_true rfl) (Nat.le_of_ble_eq_true rfl) ?_
  refine ct_X7_isShip (by first | assumption | exact b2_rg | decide | (constructor <;> omega)) hM.1.1 (by omega) ?_
  show V_ _ _ _ _ _ _ [_] _
  refine V_if_eq (tgt := 29) (pc := 9) dX7_borne_9 (by decide) b2_rg (fun h9 => ?_) (fun h9 => ?_)
  · skip
    rw [b2_0] at h9
    have e : an_borne a s k = -2 := by unfold an_borne; rw [if_neg (by omega)]
    refine V_bipush (pc := 29) dX7_borne_29 (by decide) ?_
    refine V_ireturn (pc := 31) dX7_borne_31 rfl rfl (fun hR => ?_)
    first
      | exact rt_ e.symm (hK _ hQ hP.gm)
      | exact rt_ (by unfold an_borne; rw [if_pos (by omega)]) (hK _ hQ hP.gm)
  · skip
    rw [b2_n0] at h9
    refine V_aload_n (pc := 12) dX7_borne_12 rfl rfl ?_
    refine V_iload_n (pc := 13) dX7_borne_13 rfl rfl ?_
    refine V_callV (pc := 14) (as := [_]) (rest := []) dX7_borne_14 ⟨kX7_133, iX7_isName, by decide, by decide⟩ rc_38 rfl rfl (Nat.le_of_ble_eq_true rfl) (Nat.le_of_ble_eq_true rfl) ?_
    refine ct_X7_isName (by first | assumption | exact b2_rg | decide | (constructor <;> omega)) hM.1.2.1 (by omega) ?_
    show V_ _ _ _ _ _ _ [_] _
    refine V_if_eq (tgt := 29) (pc := 17) dX7_borne_17 (by decide) b2_rg (fun h17 => ?_) (fun h17 => ?_)
    · skip
      rw [b2_0] at h17
      have e : an_borne a s k = -2 := by unfold an_borne; rw [if_neg (by omega)]
      refine V_bipush (pc := 29) dX7_borne_29 (by decide) ?_
      refine V_ireturn (pc := 31) dX7_borne_31 rfl rfl (fun hR => ?_)
      first
        | exact rt_ e.symm (hK _ hQ hP.gm)
        | exact rt_ (by unfold an_borne; rw [if_pos (by omega)]) (hK _ hQ hP.gm)
    · skip
      rw [b2_n0] at h17
      refine V_aload_n (pc := 20) dX7_borne_20 rfl rfl ?_
      refine V_iload_n (pc := 21) dX7_borne_21 rfl rfl ?_
      refine V_iload_n (pc := 22) dX7_borne_22 rfl rfl ?_
      refine V_callV (pc := 23) (as := [_, _]) (rest := []) dX7_borne_23 ⟨kX7_161, iX7_borneOf, by decide, by decide⟩ rc_38 rfl rfl (Nat.le_of_ble_eq_true rfl) (Nat.le_of_ble_eq_true rfl) ?_
      refine ct_X7_borneOf hW hM h_s h_k ?_
      show V_ _ _ _ _ _ _ [_] _
      refine V_goto (tgt := 31) (pc := 26) dX7_borne_26 (by decide) ?_
      refine V_ireturn (pc := 31) dX7_borne_31 rfl rfl (fun hR => ?_)
      first
        | exact rt_ e.symm (hK _ hQ hP.gm)
        | exact rt_ (by unfold an_borne; rw [if_pos (by omega)]) (hK _ hQ hP.gm)
theorem ct_X7_unborne {s : Int} (h_s : Rg_ s) (h : MR_ a σ) (hK : ∀ τ, MR_ a τ → Gm_ σ τ → post (some (vi_ (an_unborne a s))) τ) : V_ l D mX7_unborne (CM_ D mX7_unborne post) 0 [some (vr_ 38), some (vi_ s)] [] σ := by
  have hA := h.1
  have hW := vv_WF hA
  have hU : LW_ (uu_ a) := hA.2.2.2.1
  have hw : WW_ (ww_ a) := hA.2.2.2.2.1
  have ws := hW.s
  have wn := hW.n
  have wl := hW.l
  refine V_aload_n (pc := 0) dX7_unborne_0 rfl rfl ?_
  refine V_callV (pc := 1) (as := []) (rest := []) dX7_unborne_1 ⟨kX7_124, iX7_reads, by decide, by decide⟩ rc_38 rfl rfl (Nat.le_of_ble_eq_true rfl) (Nat.le_of_ble_eq_true rfl) ?_
  refine ct_X7_reads h (fun τ hM hQ hP => ?_)
  have hsd := hQ.2.2.1.2.2
  have hL : LM_ (uu_ a) τ := hQ.2.2.2.1
  have hG : GM_ (ww_ a) τ := hQ.2.2.2.2.1
  show V_ _ _ _ _ _ _ [] _
  refine V_aload_n (pc := 4) dX7_unborne_4 rfl rfl ?_
  refine V_iload_n (pc := 5) dX7_unborne_5 rfl rfl ?_
  refine V_callV (pc := 6) (as := [_]) (rest := []) dX7_unborne_6 ⟨kX7_127, iX7_isShip, by decide, by decide⟩ rc_38 rfl rfl (Nat.le_of_ble_eq_true rfl) (Nat.le_of_ble_eq_true rfl) ?_
  refine ct_X7_isShip (by first | assumption | exact b2_rg | decide | (constructor <;> omega)) hM.1.1 (by omega) ?_
  show V_ _ _ _ _ _ _ [_] _
  refine V_if_eq (tgt := 21) (pc := 9) dX7_unborne_9 (by decide) b2_rg (fun h9 => ?_) (fun h9 => ?_)
  · skip
    rw [b2_0] at h9
    have e : an_unborne a s = -2 := by unfold an_unborne; rw [if_neg (by omega)]
    refine V_bipush (pc := 21) dX7_unborne_21 (by decide) ?_
    refine V_ireturn (pc := 23) dX7_unborne_23 rfl rfl (fun hR => ?_)
    first
      | exact rt_ e.symm (hK _ hQ hP.gm)
      | exact rt_ (by unfold an_unborne; rw [if_pos (by omega)]) (hK _ hQ hP.gm)
  · skip
    rw [b2_n0] at h9
    refine V_aload_n (pc := 12) dX7_unborne_12 rfl rfl ?_
    refine V_iload_n (pc := 13) dX7_unborne_13 rfl rfl ?_
    refine V_iconst (pc := 14) dX7_unborne_14 ?_
    refine V_callV (pc := 15) (as := [_, _]) (rest := []) dX7_unborne_15 ⟨kX7_161, iX7_borneOf, by decide, by decide⟩ rc_38 rfl rfl (Nat.le_of_ble_eq_true rfl) (Nat.le_of_ble_eq_true rfl) ?_
    refine ct_X7_borneOf hW hM h_s (by decide) ?_
    show V_ _ _ _ _ _ _ [_] _
    refine V_goto (tgt := 23) (pc := 18) dX7_unborne_18 (by decide) ?_
    refine V_ireturn (pc := 23) dX7_unborne_23 rfl rfl (fun hR => ?_)
    first
      | exact rt_ e.symm (hK _ hQ hP.gm)
      | exact rt_ (by unfold an_unborne; rw [if_pos (by omega)]) (hK _ hQ hP.gm)
theorem ct_X7_left {y : Int} (h_y : Rg_ y) {k : Int} (h_k : Rg_ k) (h : MR_ a σ) (hK : ∀ τ, MR_ a τ → Gm_ σ τ → post (some (vi_ (an_left a y k))) τ) : V_ l D mX7_left (CM_ D mX7_left post) 0 [some (vr_ 38), some (vi_ y), some (vi_ k)] [] σ := by
  have hA := h.1
  have hW := vv_WF hA
  have hU : LW_ (uu_ a) := hA.2.2.2.1
  have hw : WW_ (ww_ a) := hA.2.2.2.2.1
  have ws := hW.s
  have wn := hW.n
  have wl := hW.l
  refine V_aload_n (pc := 0) dX7_left_0 rfl rfl ?_
  refine V_callV (pc := 1) (as := []) (rest := []) dX7_left_1 ⟨kX7_124, iX7_reads, by decide, by decide⟩ rc_38 rfl rfl (Nat.le_of_ble_eq_true rfl) (Nat.le_of_ble_eq_true rfl) ?_
  refine ct_X7_reads h (fun τ hM hQ hP => ?_)
  have hsd := hQ.2.2.1.2.2
  have hL : LM_ (uu_ a) τ := hQ.2.2.2.1
  have hG : GM_ (ww_ a) τ := hQ.2.2.2.2.1
  show V_ _ _ _ _ _ _ [] _
  refine V_iload_n (pc := 4) dX7_left_4 rfl rfl ?_
  refine V_callS (pc := 5) (as := [_]) (rest := []) dX7_left_5 ⟨kX7_164, sX7_isYear, by decide, by decide⟩ rfl rfl (Nat.le_of_ble_eq_true rfl) (Nat.le_of_ble_eq_true rfl) ?_
  refine ct_X7_isYear (by first | assumption | exact b2_rg | decide | (constructor <;> omega)) ?_
  show V_ _ _ _ _ _ _ [_] _
  refine V_if_eq (tgt := 28) (pc := 8) dX7_left_8 (by decide) b2_rg (fun h8 => ?_) (fun h8 => ?_)
  · skip
    rw [b2_0] at h8
    have e : an_left a y k = -2 := by unfold an_left; rw [if_neg (by omega)]
    refine V_bipush (pc := 28) dX7_left_28 (by decide) ?_
    refine V_ireturn (pc := 30) dX7_left_30 rfl rfl (fun hR => ?_)
    first | exact rt_ e.symm (hK _ hQ hP.gm) | exact rt_ (by unfold an_left; rw [if_pos (by omega)]; rfl) (hK _ (hQ.pf hB.pf) (hP.tr hB.pf).gm)
  · skip
    rw [b2_n0] at h8
    refine V_aload_n (pc := 11) dX7_left_11 rfl rfl ?_
    refine V_iload_n (pc := 12) dX7_left_12 rfl rfl ?_
    refine V_callV (pc := 13) (as := [_]) (rest := []) dX7_left_13 ⟨kX7_133, iX7_isName, by decide, by decide⟩ rc_38 rfl rfl (Nat.le_of_ble_eq_true rfl) (Nat.le_of_ble_eq_true rfl) ?_
    refine ct_X7_isName (by first | assumption | exact b2_rg | decide | (constructor <;> omega)) hM.1.2.1 (by omega) ?_
    show V_ _ _ _ _ _ _ [_] _
    refine V_if_eq (tgt := 28) (pc := 16) dX7_left_16 (by decide) b2_rg (fun h16 => ?_) (fun h16 => ?_)
    · skip
      rw [b2_0] at h16
      have e : an_left a y k = -2 := by unfold an_left; rw [if_neg (by omega)]
      refine V_bipush (pc := 28) dX7_left_28 (by decide) ?_
      refine V_ireturn (pc := 30) dX7_left_30 rfl rfl (fun hR => ?_)
      first | exact rt_ e.symm (hK _ hQ hP.gm) | exact rt_ (by unfold an_left; rw [if_pos (by omega)]; rfl) (hK _ (hQ.pf hB.pf) (hP.tr hB.pf).gm)
    · skip
      rw [b2_n0] at h16
      refine V_aload_n (pc := 19) dX7_left_19 rfl rfl ?_
      refine V_iload_n (pc := 20) dX7_left_20 rfl rfl ?_
      refine V_iload_n (pc := 21) dX7_left_21 rfl rfl ?_
      refine V_callV (pc := 22) (as := [_, _]) (rest := []) dX7_left_22 ⟨kX7_200, iX7_leftOf, by decide, by decide⟩ rc_38 rfl rfl (Nat.le_of_ble_eq_true rfl) (Nat.le_of_ble_eq_true rfl) ?_
      obtain ⟨Y, rfl⟩ := i_nat h8.1
      obtain ⟨j, rfl⟩ := i_nat h16.1
      refine ct_X7_leftOf hW hU (by omega) hM hL hsd (by omega) (fun ρ hB => ?_)
      show V_ _ _ _ _ _ _ [_] _
      refine V_goto (tgt := 30) (pc := 25) dX7_left_25 (by decide) ?_
      refine V_ireturn (pc := 30) dX7_left_30 rfl rfl (fun hR => ?_)
      first | exact rt_ e.symm (hK _ hQ hP.gm) | exact rt_ (by unfold an_left; rw [if_pos (by omega)]; rfl) (hK _ (hQ.pf hB.pf) (hP.tr hB.pf).gm)
theorem ct_X7_behind {y : Int} (h_y : Rg_ y) {w : Int} (h_w : Rg_ w) (h : MR_ a σ) (hK : ∀ τ, MR_ a τ → Gm_ σ τ → post (some (vi_ (an_behind a y w))) τ) : V_ l D mX7_behind (CM_ D mX7_behind post) 0 [some (vr_ 38), some (vi_ y), some (vi_ w)] [] σ := by
  have hA := h.1
  have hW := vv_WF hA
  have hU : LW_ (uu_ a) := hA.2.2.2.1
  have hw : WW_ (ww_ a) := hA.2.2.2.2.1
  have ws := hW.s
  have wn := hW.n
  have wl := hW.l
  refine V_aload_n (pc := 0) dX7_behind_0 rfl rfl ?_
  refine V_callV (pc := 1) (as := []) (rest := []) dX7_behind_1 ⟨kX7_124, iX7_reads, by decide, by decide⟩ rc_38 rfl rfl (Nat.le_of_ble_eq_true rfl) (Nat.le_of_ble_eq_true rfl) ?_
  refine ct_X7_reads h (fun τ hM hQ hP => ?_)
  have hsd := hQ.2.2.1.2.2
  have hL : LM_ (uu_ a) τ := hQ.2.2.2.1
  have hG : GM_ (ww_ a) τ := hQ.2.2.2.2.1
  show V_ _ _ _ _ _ _ [] _
  refine V_iload_n (pc := 4) dX7_behind_4 rfl rfl ?_
  refine V_callS (pc := 5) (as := [_]) (rest := []) dX7_behind_5 ⟨kX7_164, sX7_isYear, by decide, by decide⟩ rfl rfl (Nat.le_of_ble_eq_true rfl) (Nat.le_of_ble_eq_true rfl) ?_
  refine ct_X7_isYear (by first | assumption | exact b2_rg | decide | (constructor <;> omega)) ?_
  show V_ _ _ _ _ _ _ [_] _
  refine V_if_eq (tgt := 27) (pc := 8) dX7_behind_8 (by decide) b2_rg (fun h8 => ?_) (fun h8 => ?_)
  · skip
    rw [b2_0] at h8
    have e : an_behind a y w = -2 := by unfold an_behind; rw [if_neg (by omega)]
    refine V_bipush (pc := 27) dX7_behind_27 (by decide) ?_
    refine V_ireturn (pc := 29) dX7_behind_29 rfl rfl (fun hR => ?_)
    first | exact rt_ e.symm (hK _ hQ hP.gm) | exact rt_ (by unfold an_behind; (repeat' split) <;> first | rfl | omega) (hK _ (hQ.pf hB.pf) (hP.tr hB.pf).gm)
  · skip
    rw [b2_n0] at h8
    refine V_iload_n (pc := 11) dX7_behind_11 rfl rfl ?_
    refine V_callS (pc := 12) (as := [_]) (rest := []) dX7_behind_12 ⟨kX7_130, sX7_isTwo, by decide, by decide⟩ rfl rfl (Nat.le_of_ble_eq_true rfl) (Nat.le_of_ble_eq_true rfl) ?_
    refine ct_X7_isTwo (by first | assumption | exact b2_rg | decide | (constructor <;> omega)) ?_
    show V_ _ _ _ _ _ _ [_] _
    refine V_if_eq (tgt := 27) (pc := 15) dX7_behind_15 (by decide) b2_rg (fun h15 => ?_) (fun h15 => ?_)
    · skip
      rw [b2_0] at h15
      have e : an_behind a y w = -2 := by unfold an_behind; rw [if_neg (by omega)]
      refine V_bipush (pc := 27) dX7_behind_27 (by decide) ?_
      refine V_ireturn (pc := 29) dX7_behind_29 rfl rfl (fun hR => ?_)
      first | exact rt_ e.symm (hK _ hQ hP.gm) | exact rt_ (by unfold an_behind; (repeat' split) <;> first | rfl | omega) (hK _ (hQ.pf hB.pf) (hP.tr hB.pf).gm)
    · skip
      rw [b2_n0] at h15
      refine V_aload_n (pc := 18) dX7_behind_18 rfl rfl ?_
      refine V_iload_n (pc := 19) dX7_behind_19 rfl rfl ?_
      refine V_iload_n (pc := 20) dX7_behind_20 rfl rfl ?_
      refine V_callV (pc := 21) (as := [_, _]) (rest := []) dX7_behind_21 ⟨kX7_203, iX7_behindOf, by decide, by decide⟩ rc_38 rfl rfl (Nat.le_of_ble_eq_true rfl) (Nat.le_of_ble_eq_true rfl) ?_
      obtain ⟨Y, rfl⟩ := i_nat h8.1
      refine ct_X7_behindOf hW hU (by omega) hM hL hsd (by omega) (fun ρ hB => ?_)
      show V_ _ _ _ _ _ _ [_] _
      refine V_goto (tgt := 29) (pc := 24) dX7_behind_24 (by decide) ?_
      refine V_ireturn (pc := 29) dX7_behind_29 rfl rfl (fun hR => ?_)
      first | exact rt_ e.symm (hK _ hQ hP.gm) | exact rt_ (by unfold an_behind; (repeat' split) <;> first | rfl | omega) (hK _ (hQ.pf hB.pf) (hP.tr hB.pf).gm)
theorem ct_X7_paid {y : Int} (h_y : Rg_ y) {s : Int} (h_s : Rg_ s) (h : MR_ a σ) (hK : ∀ τ, MR_ a τ → Gm_ σ τ → post (some (vi_ (an_paid a y s))) τ) : V_ l D mX7_paid (CM_ D mX7_paid post) 0 [some (vr_ 38), some (vi_ y), some (vi_ s)] [] σ := by
  have hA := h.1
  have hW := vv_WF hA
  have hU : LW_ (uu_ a) := hA.2.2.2.1
  have hw : WW_ (ww_ a) := hA.2.2.2.2.1
  have ws := hW.s
  have wn := hW.n
  have wl := hW.l
  refine V_aload_n (pc := 0) dX7_paid_0 rfl rfl ?_
  refine V_callV (pc := 1) (as := []) (rest := []) dX7_paid_1 ⟨kX7_124, iX7_reads, by decide, by decide⟩ rc_38 rfl rfl (Nat.le_of_ble_eq_true rfl) (Nat.le_of_ble_eq_true rfl) ?_
  refine ct_X7_reads h (fun τ hM hQ hP => ?_)
  have hsd := hQ.2.2.1.2.2
  have hL : LM_ (uu_ a) τ := hQ.2.2.2.1
  have hG : GM_ (ww_ a) τ := hQ.2.2.2.2.1
  show V_ _ _ _ _ _ _ [] _
  refine V_iload_n (pc := 4) dX7_paid_4 rfl rfl ?_
  refine V_callS (pc := 5) (as := [_]) (rest := []) dX7_paid_5 ⟨kX7_164, sX7_isYear, by decide, by decide⟩ rfl rfl (Nat.le_of_ble_eq_true rfl) (Nat.le_of_ble_eq_true rfl) ?_
  refine ct_X7_isYear (by first | assumption | exact b2_rg | decide | (constructor <;> omega)) ?_
  show V_ _ _ _ _ _ _ [_] _
  refine V_if_eq (tgt := 28) (pc := 8) dX7_paid_8 (by decide) b2_rg (fun h8 => ?_) (fun h8 => ?_)
  · skip
    rw [b2_0] at h8
    have e : an_paid a y s = -2 := by unfold an_paid; rw [if_neg (by omega)]
    refine V_bipush (pc := 28) dX7_paid_28 (by decide) ?_
    refine V_ireturn (pc := 30) dX7_paid_30 rfl rfl (fun hR => ?_)
    first | exact rt_ e.symm (hK _ hQ hP.gm) | exact rt_ (by unfold an_paid; rw [if_pos (by omega)]; rfl) (hK _ (hQ.pf hB.pf) (hP.tr hB.pf).gm)
  · skip
    rw [b2_n0] at h8
    refine V_aload_n (pc := 11) dX7_paid_11 rfl rfl ?_
    refine V_iload_n (pc := 12) dX7_paid_12 rfl rfl ?_
    refine V_callV (pc := 13) (as := [_]) (rest := []) dX7_paid_13 ⟨kX7_127, iX7_isShip, by decide, by decide⟩ rc_38 rfl rfl (Nat.le_of_ble_eq_true rfl) (Nat.le_of_ble_eq_true rfl) ?_
    refine ct_X7_isShip (by first | assumption | exact b2_rg | decide | (constructor <;> omega)) hM.1.1 (by omega) ?_
    show V_ _ _ _ _ _ _ [_] _
    refine V_if_eq (tgt := 28) (pc := 16) dX7_paid_16 (by decide) b2_rg (fun h16 => ?_) (fun h16 => ?_)
    · skip
      rw [b2_0] at h16
      have e : an_paid a y s = -2 := by unfold an_paid; rw [if_neg (by omega)]
      refine V_bipush (pc := 28) dX7_paid_28 (by decide) ?_
      refine V_ireturn (pc := 30) dX7_paid_30 rfl rfl (fun hR => ?_)
      first | exact rt_ e.symm (hK _ hQ hP.gm) | exact rt_ (by unfold an_paid; rw [if_pos (by omega)]; rfl) (hK _ (hQ.pf hB.pf) (hP.tr hB.pf).gm)
    · skip
      rw [b2_n0] at h16
      refine V_aload_n (pc := 19) dX7_paid_19 rfl rfl ?_
      refine V_iload_n (pc := 20) dX7_paid_20 rfl rfl ?_
      refine V_iload_n (pc := 21) dX7_paid_21 rfl rfl ?_
      refine V_callV (pc := 22) (as := [_, _]) (rest := []) dX7_paid_22 ⟨kX7_206, iX7_paidOf, by decide, by decide⟩ rc_38 rfl rfl (Nat.le_of_ble_eq_true rfl) (Nat.le_of_ble_eq_true rfl) ?_
      obtain ⟨Y, rfl⟩ := i_nat h8.1
      obtain ⟨j, rfl⟩ := i_nat h16.1
      refine ct_X7_paidOf hW hU (by omega) hM hL hsd (by omega) (fun ρ hB => ?_)
      show V_ _ _ _ _ _ _ [_] _
      refine V_goto (tgt := 30) (pc := 25) dX7_paid_25 (by decide) ?_
      refine V_ireturn (pc := 30) dX7_paid_30 rfl rfl (fun hR => ?_)
      first | exact rt_ e.symm (hK _ hQ hP.gm) | exact rt_ (by unfold an_paid; rw [if_pos (by omega)]; rfl) (hK _ (hQ.pf hB.pf) (hP.tr hB.pf).gm)
theorem ct_X7_first {w : Int} (h_w : Rg_ w) (h : MR_ a σ) (hK : ∀ τ, MR_ a τ → Gm_ σ τ → post (some (vi_ (an_first a w))) τ) : V_ l D mX7_first (CM_ D mX7_first post) 0 [some (vr_ 38), some (vi_ w)] [] σ := by
  have hA := h.1
  have hW := vv_WF hA
  have hU : LW_ (uu_ a) := hA.2.2.2.1
  have hw : WW_ (ww_ a) := hA.2.2.2.2.1
  have ws := hW.s
  have wn := hW.n
  have wl := hW.l
  refine V_aload_n (pc := 0) dX7_first_0 rfl rfl ?_
  refine V_callV (pc := 1) (as := []) (rest := []) dX7_first_1 ⟨kX7_124, iX7_reads, by decide, by decide⟩ rc_38 rfl rfl (Nat.le_of_ble_eq_true rfl) (Nat.le_of_ble_eq_true rfl) ?_
  refine ct_X7_reads h (fun τ hM hQ hP => ?_)
  have hsd := hQ.2.2.1.2.2
  have hL : LM_ (uu_ a) τ := hQ.2.2.2.1
  have hG : GM_ (ww_ a) τ := hQ.2.2.2.2.1
  show V_ _ _ _ _ _ _ [] _
  refine V_iload_n (pc := 4) dX7_first_4 rfl rfl ?_
  refine V_callS (pc := 5) (as := [_]) (rest := []) dX7_first_5 ⟨kX7_130, sX7_isTwo, by decide, by decide⟩ rfl rfl (Nat.le_of_ble_eq_true rfl) (Nat.le_of_ble_eq_true rfl) ?_
  refine ct_X7_isTwo (by first | assumption | exact b2_rg | decide | (constructor <;> omega)) ?_
  show V_ _ _ _ _ _ _ [_] _
  refine V_if_eq (tgt := 19) (pc := 8) dX7_first_8 (by decide) b2_rg (fun h8 => ?_) (fun h8 => ?_)
  · skip
    rw [b2_0] at h8
    have e : an_first a w = -2 := by unfold an_first; rw [if_neg (by omega)]
    refine V_bipush (pc := 19) dX7_first_19 (by decide) ?_
    refine V_ireturn (pc := 21) dX7_first_21 rfl rfl (fun hR => ?_)
    first | exact rt_ e.symm (hK _ hQ hP.gm) | exact rt_ (by unfold an_first; (repeat' split) <;> first | rfl | omega) (hK _ (hQ.pf hB.pf) (hP.tr hB.pf).gm)
  · skip
    rw [b2_n0] at h8
    refine V_aload_n (pc := 11) dX7_first_11 rfl rfl ?_
    refine V_iload_n (pc := 12) dX7_first_12 rfl rfl ?_
    refine V_callV (pc := 13) (as := [_]) (rest := []) dX7_first_13 ⟨kX7_209, iX7_firstOf, by decide, by decide⟩ rc_38 rfl rfl (Nat.le_of_ble_eq_true rfl) (Nat.le_of_ble_eq_true rfl) ?_
    refine ct_X7_firstOf hW hU hM hL hsd (by omega) (fun ρ hB => ?_)
    show V_ _ _ _ _ _ _ [_] _
    refine V_goto (tgt := 21) (pc := 16) dX7_first_16 (by decide) ?_
    refine V_ireturn (pc := 21) dX7_first_21 rfl rfl (fun hR => ?_)
    first | exact rt_ e.symm (hK _ hQ hP.gm) | exact rt_ (by unfold an_first; (repeat' split) <;> first | rfl | omega) (hK _ (hQ.pf hB.pf) (hP.tr hB.pf).gm)
theorem ct_X7_safe  (h : MR_ a σ) (hK : ∀ τ, MR_ a τ → Gm_ σ τ → post (some (vi_ (an_safe a))) τ) : V_ l D mX7_safe (CM_ D mX7_safe post) 0 [some (vr_ 38)] [] σ := by
  have hA := h.1
  have hW := vv_WF hA
  have hU : LW_ (uu_ a) := hA.2.2.2.1
  have hw : WW_ (ww_ a) := hA.2.2.2.2.1
  have ws := hW.s
  have wn := hW.n
  have wl := hW.l
  refine V_aload_n (pc := 0) dX7_safe_0 rfl rfl ?_
  refine V_callV (pc := 1) (as := []) (rest := []) dX7_safe_1 ⟨kX7_124, iX7_reads, by decide, by decide⟩ rc_38 rfl rfl (Nat.le_of_ble_eq_true rfl) (Nat.le_of_ble_eq_true rfl) ?_
  refine ct_X7_reads h (fun τ hM hQ hP => ?_)
  have hsd := hQ.2.2.1.2.2
  have hL : LM_ (uu_ a) τ := hQ.2.2.2.1
  have hG : GM_ (ww_ a) τ := hQ.2.2.2.2.1
  show V_ _ _ _ _ _ _ [] _
  refine V_aload_n (pc := 4) dX7_safe_4 rfl rfl ?_
  refine V_callV (pc := 5) (as := []) (rest := []) dX7_safe_5 ⟨kX7_215, iX7_safeNow, by decide, by decide⟩ rc_38 rfl rfl (Nat.le_of_ble_eq_true rfl) (Nat.le_of_ble_eq_true rfl) ?_
  refine ct_X7_safeNow hW hM hsd (fun ρ hB => ?_)
  show V_ _ _ _ _ _ _ [_] _
  refine V_ireturn (pc := 8) dX7_safe_8 rfl rfl (fun hR => ?_)
  exact hK _ (hQ.pf hB.pf) (hP.tr hB.pf).gm
theorem ct_X7_take {s : Int} (h_s : Rg_ s) (h : MR_ a σ) (hK : ∀ τ, MR_ a τ → Gm_ σ τ → post (some (vi_ (an_take a s))) τ) : V_ l D mX7_take (CM_ D mX7_take post) 0 [some (vr_ 38), some (vi_ s)] [] σ := by
  have hA := h.1
  have hW := vv_WF hA
  have hU : LW_ (uu_ a) := hA.2.2.2.1
  have hw : WW_ (ww_ a) := hA.2.2.2.2.1
  have ws := hW.s
  have wn := hW.n
  have wl := hW.l
  refine V_aload_n (pc := 0) dX7_take_0 rfl rfl ?_
  refine V_callV (pc := 1) (as := []) (rest := []) dX7_take_1 ⟨kX7_124, iX7_reads, by decide, by decide⟩ rc_38 rfl rfl (Nat.le_of_ble_eq_true rfl) (Nat.le_of_ble_eq_true rfl) ?_
  refine ct_X7_reads h (fun τ hM hQ hP => ?_)
  have hsd := hQ.2.2.1.2.2
  have hL : LM_ (uu_ a) τ := hQ.2.2.2.1
  have hG : GM_ (ww_ a) τ := hQ.2.2.2.2.1
  show V_ _ _ _ _ _ _ [] _
  refine V_aload_n (pc := 4) dX7_take_4 rfl rfl ?_
  refine V_iload_n (pc := 5) dX7_take_5 rfl rfl ?_
  refine V_callV (pc := 6) (as := [_]) (rest := []) dX7_take_6 ⟨kX7_127, iX7_isShip, by decide, by decide⟩ rc_38 rfl rfl (Nat.le_of_ble_eq_true rfl) (Nat.le_of_ble_eq_true rfl) ?_
  refine ct_X7_isShip (by first | assumption | exact b2_rg | decide | (constructor <;> omega)) hM.1.1 (by omega) ?_
  show V_ _ _ _ _ _ _ [_] _
  refine V_if_eq (tgt := 20) (pc := 9) dX7_take_9 (by decide) b2_rg (fun h9 => ?_) (fun h9 => ?_)
  · skip
    rw [b2_0] at h9
    have e : an_take a s = -2 := by unfold an_take; rw [if_neg (by omega)]
    refine V_bipush (pc := 20) dX7_take_20 (by decide) ?_
    refine V_ireturn (pc := 22) dX7_take_22 rfl rfl (fun hR => ?_)
    first
      | exact rt_ e.symm (hK _ hQ hP.gm)
      | exact rt_ (by unfold an_take; rw [if_pos (by omega)]) (hK _ hQ hP.gm)
  · skip
    rw [b2_n0] at h9
    refine V_aload_n (pc := 12) dX7_take_12 rfl rfl ?_
    refine V_iload_n (pc := 13) dX7_take_13 rfl rfl ?_
    refine V_callV (pc := 14) (as := [_]) (rest := []) dX7_take_14 ⟨kX7_225, iX7_takeOf, by decide, by decide⟩ rc_38 rfl rfl (Nat.le_of_ble_eq_true rfl) (Nat.le_of_ble_eq_true rfl) ?_
    refine ct_X7_takeOf h9 hW hM ?_
    show V_ _ _ _ _ _ _ [_] _
    refine V_goto (tgt := 22) (pc := 17) dX7_take_17 (by decide) ?_
    refine V_ireturn (pc := 22) dX7_take_22 rfl rfl (fun hR => ?_)
    first
      | exact rt_ e.symm (hK _ hQ hP.gm)
      | exact rt_ (by unfold an_take; rw [if_pos (by omega)]) (hK _ hQ hP.gm)
theorem ct_X7_strike {k : Int} (h_k : Rg_ k) {z : Int} (h_z : Rg_ z) (h : MR_ a σ) (hK : ∀ τ, MR_ a τ → Gm_ σ τ → post (some (vi_ (an_strike a k z))) τ) : V_ l D mX7_strike (CM_ D mX7_strike post) 0 [some (vr_ 38), some (vi_ k), some (vi_ z)] [] σ := by
  have hA := h.1
  have hW := vv_WF hA
  have hU : LW_ (uu_ a) := hA.2.2.2.1
  have hw : WW_ (ww_ a) := hA.2.2.2.2.1
  have ws := hW.s
  have wn := hW.n
  have wl := hW.l
  refine V_aload_n (pc := 0) dX7_strike_0 rfl rfl ?_
  refine V_callV (pc := 1) (as := []) (rest := []) dX7_strike_1 ⟨kX7_124, iX7_reads, by decide, by decide⟩ rc_38 rfl rfl (Nat.le_of_ble_eq_true rfl) (Nat.le_of_ble_eq_true rfl) ?_
  refine ct_X7_reads h (fun τ hM hQ hP => ?_)
  have hsd := hQ.2.2.1.2.2
  have hL : LM_ (uu_ a) τ := hQ.2.2.2.1
  have hG : GM_ (ww_ a) τ := hQ.2.2.2.2.1
  show V_ _ _ _ _ _ _ [] _
  refine V_aload_n (pc := 4) dX7_strike_4 rfl rfl ?_
  refine V_iload_n (pc := 5) dX7_strike_5 rfl rfl ?_
  refine V_callV (pc := 6) (as := [_]) (rest := []) dX7_strike_6 ⟨kX7_133, iX7_isName, by decide, by decide⟩ rc_38 rfl rfl (Nat.le_of_ble_eq_true rfl) (Nat.le_of_ble_eq_true rfl) ?_
  refine ct_X7_isName (by first | assumption | exact b2_rg | decide | (constructor <;> omega)) hM.1.2.1 (by omega) ?_
  show V_ _ _ _ _ _ _ [_] _
  refine V_if_eq (tgt := 29) (pc := 9) dX7_strike_9 (by decide) b2_rg (fun h9 => ?_) (fun h9 => ?_)
  · skip
    rw [b2_0] at h9
    have e : an_strike a k z = -1002 := by unfold an_strike; rw [if_neg (by omega)]
    refine V_sipush (pc := 29) dX7_strike_29 (by decide) ?_
    refine V_ireturn (pc := 32) dX7_strike_32 rfl rfl (fun hR => ?_)
    first
      | exact rt_ e.symm (hK _ hQ hP.gm)
      | exact rt_ (by unfold an_strike; rw [if_pos (by omega)]; rfl) (hK _ hQ hP.gm)
  · skip
    rw [b2_n0] at h9
    refine V_aload_n (pc := 12) dX7_strike_12 rfl rfl ?_
    refine V_iload_n (pc := 13) dX7_strike_13 rfl rfl ?_
    refine V_callV (pc := 14) (as := [_]) (rest := []) dX7_strike_14 ⟨kX7_133, iX7_isName, by decide, by decide⟩ rc_38 rfl rfl (Nat.le_of_ble_eq_true rfl) (Nat.le_of_ble_eq_true rfl) ?_
    refine ct_X7_isName (by first | assumption | exact b2_rg | decide | (constructor <;> omega)) hM.1.2.1 (by omega) ?_
    show V_ _ _ _ _ _ _ [_] _
    refine V_if_eq (tgt := 29) (pc := 17) dX7_strike_17 (by decide) b2_rg (fun h17 => ?_) (fun h17 => ?_)
    · skip
      rw [b2_0] at h17
      have e : an_strike a k z = -1002 := by unfold an_strike; rw [if_neg (by omega)]
      refine V_sipush (pc := 29) dX7_strike_29 (by decide) ?_
      refine V_ireturn (pc := 32) dX7_strike_32 rfl rfl (fun hR => ?_)
      first
        | exact rt_ e.symm (hK _ hQ hP.gm)
        | exact rt_ (by unfold an_strike; rw [if_pos (by omega)]; rfl) (hK _ hQ hP.gm)
    · skip
      rw [b2_n0] at h17
      refine V_aload_n (pc := 20) dX7_strike_20 rfl rfl ?_
      refine V_iload_n (pc := 21) dX7_strike_21 rfl rfl ?_
      refine V_iload_n (pc := 22) dX7_strike_22 rfl rfl ?_
      refine V_callV (pc := 23) (as := [_, _]) (rest := []) dX7_strike_23 ⟨kX7_231, iX7_strikeOf, by decide, by decide⟩ rc_38 rfl rfl (Nat.le_of_ble_eq_true rfl) (Nat.le_of_ble_eq_true rfl) ?_
      refine ct_X7_strikeOf hW hM h9 h17 ?_
      show V_ _ _ _ _ _ _ [_] _
      refine V_goto (tgt := 32) (pc := 26) dX7_strike_26 (by decide) ?_
      refine V_ireturn (pc := 32) dX7_strike_32 rfl rfl (fun hR => ?_)
      first
        | exact rt_ e.symm (hK _ hQ hP.gm)
        | exact rt_ (by unfold an_strike; rw [if_pos (by omega)]; rfl) (hK _ hQ hP.gm)
theorem ct_X7_sound {w : Int} (h_w : Rg_ w) (h : MR_ a σ) (hK : ∀ τ, MR_ a τ → Gm_ σ τ → post (some (vi_ (an_sound a w))) τ) : V_ l D mX7_sound (CM_ D mX7_sound post) 0 [some (vr_ 38), some (vi_ w)] [] σ := by
  have hA := h.1
  have hW := vv_WF hA
  have hU : LW_ (uu_ a) := hA.2.2.2.1
  have hw : WW_ (ww_ a) := hA.2.2.2.2.1
  have ws := hW.s
  have wn := hW.n
  have wl := hW.l
  refine V_aload_n (pc := 0) dX7_sound_0 rfl rfl ?_
  refine V_callV (pc := 1) (as := []) (rest := []) dX7_sound_1 ⟨kX7_124, iX7_reads, by decide, by decide⟩ rc_38 rfl rfl (Nat.le_of_ble_eq_true rfl) (Nat.le_of_ble_eq_true rfl) ?_
  refine ct_X7_reads h (fun τ hM hQ hP => ?_)
  have hsd := hQ.2.2.1.2.2
  have hL : LM_ (uu_ a) τ := hQ.2.2.2.1
  have hG : GM_ (ww_ a) τ := hQ.2.2.2.2.1
  show V_ _ _ _ _ _ _ [] _
  refine V_iload_n (pc := 4) dX7_sound_4 rfl rfl ?_
  refine V_callS (pc := 5) (as := [_]) (rest := []) dX7_sound_5 ⟨kX7_130, sX7_isTwo, by decide, by decide⟩ rfl rfl (Nat.le_of_ble_eq_true rfl) (Nat.le_of_ble_eq_true rfl) ?_
  refine ct_X7_isTwo (by first | assumption | exact b2_rg | decide | (constructor <;> omega)) ?_
  show V_ _ _ _ _ _ _ [_] _
  refine V_if_eq (tgt := 19) (pc := 8) dX7_sound_8 (by decide) b2_rg (fun h8 => ?_) (fun h8 => ?_)
  · skip
    rw [b2_0] at h8
    have e : an_sound a w = -2 := by unfold an_sound; rw [if_neg (by omega)]
    refine V_bipush (pc := 19) dX7_sound_19 (by decide) ?_
    refine V_ireturn (pc := 21) dX7_sound_21 rfl rfl (fun hR => ?_)
    first | exact rt_ e.symm (hK _ hQ hP.gm) | exact rt_ (by unfold an_sound; (repeat' split) <;> first | rfl | omega) (hK _ (hQ.pf hB.pf) (hP.tr hB.pf).gm)
  · skip
    rw [b2_n0] at h8
    refine V_aload_n (pc := 11) dX7_sound_11 rfl rfl ?_
    refine V_iload_n (pc := 12) dX7_sound_12 rfl rfl ?_
    refine V_callV (pc := 13) (as := [_]) (rest := []) dX7_sound_13 ⟨kX7_242, iX7_soundOf, by decide, by decide⟩ rc_38 rfl rfl (Nat.le_of_ble_eq_true rfl) (Nat.le_of_ble_eq_true rfl) ?_
    refine ct_X7_soundOf hW hw h_w hM hG hsd (fun ρ hB => ?_)
    show V_ _ _ _ _ _ _ [_] _
    refine V_goto (tgt := 21) (pc := 16) dX7_sound_16 (by decide) ?_
    refine V_ireturn (pc := 21) dX7_sound_21 rfl rfl (fun hR => ?_)
    first | exact rt_ e.symm (hK _ hQ hP.gm) | exact rt_ (by unfold an_sound; (repeat' split) <;> first | rfl | omega) (hK _ (hQ.pf hB.pf) (hP.tr hB.pf).gm)
theorem ct_X7_press  (h : MR_ a σ) (hK : ∀ τ, MR_ a τ → Gm_ σ τ → post (some (vi_ (an_press a))) τ) : V_ l D mX7_press (CM_ D mX7_press post) 0 [some (vr_ 38)] [] σ := by
  have hA := h.1
  have hW := vv_WF hA
  have hU : LW_ (uu_ a) := hA.2.2.2.1
  have hw : WW_ (ww_ a) := hA.2.2.2.2.1
  have ws := hW.s
  have wn := hW.n
  have wl := hW.l
  refine V_aload_n (pc := 0) dX7_press_0 rfl rfl ?_
  refine V_callV (pc := 1) (as := []) (rest := []) dX7_press_1 ⟨kX7_124, iX7_reads, by decide, by decide⟩ rc_38 rfl rfl (Nat.le_of_ble_eq_true rfl) (Nat.le_of_ble_eq_true rfl) ?_
  refine ct_X7_reads h (fun τ hM hQ hP => ?_)
  have hsd := hQ.2.2.1.2.2
  have hL : LM_ (uu_ a) τ := hQ.2.2.2.1
  have hG : GM_ (ww_ a) τ := hQ.2.2.2.2.1
  show V_ _ _ _ _ _ _ [] _
  refine V_aload_n (pc := 4) dX7_press_4 rfl rfl ?_
  refine V_callV (pc := 5) (as := []) (rest := []) dX7_press_5 ⟨kX7_248, iX7_pressNow, by decide, by decide⟩ rc_38 rfl rfl (Nat.le_of_ble_eq_true rfl) (Nat.le_of_ble_eq_true rfl) ?_
  refine ct_X7_pressNow hW hw hM hG hsd (fun ρ hB => ?_)
  show V_ _ _ _ _ _ _ [_] _
  refine V_ireturn (pc := 8) dX7_press_8 rfl rfl (fun hR => ?_)
  exact hK _ (hQ.pf hB.pf) (hP.tr hB.pf).gm
theorem ct_X7_years {d : Int} (h_d : Rg_ d) {n : Int} (h_n : Rg_ n) {k : Int} (h_k : Rg_ k) {w : Int} (h_w : Rg_ w) (h : MR_ a σ) (hK : ∀ τ, MR_ a τ → Gm_ σ τ → post (some (vi_ (an_years a d n k w))) τ) : V_ l D mX7_years (CM_ D mX7_years post) 0 [some (vr_ 38), some (vi_ d), some (vi_ n), some (vi_ k), some (vi_ w)] [] σ := by
  have hA := h.1
  have hW := vv_WF hA
  have hU : LW_ (uu_ a) := hA.2.2.2.1
  have hw : WW_ (ww_ a) := hA.2.2.2.2.1
  have ws := hW.s
  have wn := hW.n
  have wl := hW.l
  refine V_aload_n (pc := 0) dX7_years_0 rfl rfl ?_
  refine V_callV (pc := 1) (as := []) (rest := []) dX7_years_1 ⟨kX7_124, iX7_reads, by decide, by decide⟩ rc_38 rfl rfl (Nat.le_of_ble_eq_true rfl) (Nat.le_of_ble_eq_true rfl) ?_
  refine ct_X7_reads h (fun τ hM hQ hP => ?_)
  have hsd := hQ.2.2.1.2.2
  have hL : LM_ (uu_ a) τ := hQ.2.2.2.1
  have hG : GM_ (ww_ a) τ := hQ.2.2.2.2.1
  show V_ _ _ _ _ _ _ [] _
  refine V_iload_n (pc := 4) dX7_years_4 rfl rfl ?_
  refine V_i2l (pc := 5) dX7_years_5 (by first | assumption | exact b2_rg | decide | (constructor <;> omega)) ?_
  refine V_lconst (z := 1) (pc := 6) dX7_years_6 rfl ?_
  refine V_ldc2 (v := (30)) (z := 30) (pc := 7) dX7_years_7 (tb_in 1154 (by decide +kernel) rfl) (by decide +kernel) ?_
  refine V_callS (pc := 10) (as := [_, _, _]) (rest := []) dX7_years_10 ⟨kX7_61, sX7_in, by decide, by decide⟩ rfl rfl (Nat.le_of_ble_eq_true rfl) (Nat.le_of_ble_eq_true rfl) ?_
  refine ct_X7_in (by constructor <;> omega) (by constructor <;> omega) (by constructor <;> omega) ?_
  show V_ _ _ _ _ _ _ [_] _
  refine V_if_eq (tgt := 44) (pc := 13) dX7_years_13 (by decide) b2_rg (fun h13 => ?_) (fun h13 => ?_)
  · skip
    rw [b2_0] at h13
    have e : an_years a d n k w = -2 := by unfold an_years; rw [if_neg (by omega)]
    refine V_bipush (pc := 44) dX7_years_44 (by decide) ?_
    refine V_ireturn (pc := 46) dX7_years_46 rfl rfl (fun hR => ?_)
    first | exact rt_ e.symm (hK _ hQ hP.gm) | exact rt_ (by unfold an_years; (repeat' split) <;> first | rfl | omega) (hK _ (hQ.pf hB.pf) (hP.tr hB.pf).gm)
  · skip
    rw [b2_n0] at h13
    refine V_aload_n (pc := 16) dX7_years_16 rfl rfl ?_
    refine V_iload_n (pc := 17) dX7_years_17 rfl rfl ?_
    refine V_callV (pc := 18) (as := [_]) (rest := []) dX7_years_18 ⟨kX7_133, iX7_isName, by decide, by decide⟩ rc_38 rfl rfl (Nat.le_of_ble_eq_true rfl) (Nat.le_of_ble_eq_true rfl) ?_
    refine ct_X7_isName (by first | assumption | exact b2_rg | decide | (constructor <;> omega)) hM.1.2.1 (by omega) ?_
    show V_ _ _ _ _ _ _ [_] _
    refine V_if_eq (tgt := 44) (pc := 21) dX7_years_21 (by decide) b2_rg (fun h21 => ?_) (fun h21 => ?_)
    · skip
      rw [b2_0] at h21
      have e : an_years a d n k w = -2 := by unfold an_years; rw [if_neg (by omega)]
      refine V_bipush (pc := 44) dX7_years_44 (by decide) ?_
      refine V_ireturn (pc := 46) dX7_years_46 rfl rfl (fun hR => ?_)
      first | exact rt_ e.symm (hK _ hQ hP.gm) | exact rt_ (by unfold an_years; (repeat' split) <;> first | rfl | omega) (hK _ (hQ.pf hB.pf) (hP.tr hB.pf).gm)
    · skip
      rw [b2_n0] at h21
      refine V_iload (pc := 24) dX7_years_24 rfl ?_
      refine V_callS (pc := 26) (as := [_]) (rest := []) dX7_years_26 ⟨kX7_130, sX7_isTwo, by decide, by decide⟩ rfl rfl (Nat.le_of_ble_eq_true rfl) (Nat.le_of_ble_eq_true rfl) ?_
      refine ct_X7_isTwo (by first | assumption | exact b2_rg | decide | (constructor <;> omega)) ?_
      show V_ _ _ _ _ _ _ [_] _
      refine V_if_eq (tgt := 44) (pc := 29) dX7_years_29 (by decide) b2_rg (fun h29 => ?_) (fun h29 => ?_)
      · skip
        rw [b2_0] at h29
        have e : an_years a d n k w = -2 := by unfold an_years; rw [if_neg (by omega)]
        refine V_bipush (pc := 44) dX7_years_44 (by decide) ?_
        refine V_ireturn (pc := 46) dX7_years_46 rfl rfl (fun hR => ?_)
        first | exact rt_ e.symm (hK _ hQ hP.gm) | exact rt_ (by unfold an_years; (repeat' split) <;> first | rfl | omega) (hK _ (hQ.pf hB.pf) (hP.tr hB.pf).gm)
      · skip
        rw [b2_n0] at h29
        refine V_aload_n (pc := 32) dX7_years_32 rfl rfl ?_
        refine V_iload_n (pc := 33) dX7_years_33 rfl rfl ?_
        refine V_iload_n (pc := 34) dX7_years_34 rfl rfl ?_
        refine V_iload_n (pc := 35) dX7_years_35 rfl rfl ?_
        refine V_iload (pc := 36) dX7_years_36 rfl ?_
        refine V_callV (pc := 38) (as := [_, _, _, _]) (rest := []) dX7_years_38 ⟨kX7_280, iX7_yearsOf, by decide, by decide⟩ rc_38 rfl rfl (Nat.le_of_ble_eq_true rfl) (Nat.le_of_ble_eq_true rfl) ?_
        obtain ⟨N, rfl⟩ := i_nat (show 0 ≤ n by omega)
        refine ct_X7_yearsOf hW (by omega) h21 h29 h_d hM hsd (fun ρ hB => ?_)
        show V_ _ _ _ _ _ _ [_] _
        refine V_goto (tgt := 46) (pc := 41) dX7_years_41 (by decide) ?_
        refine V_ireturn (pc := 46) dX7_years_46 rfl rfl (fun hR => ?_)
        first | exact rt_ e.symm (hK _ hQ hP.gm) | exact rt_ (by unfold an_years; (repeat' split) <;> first | rfl | omega) (hK _ (hQ.pf hB.pf) (hP.tr hB.pf).gm)
end
