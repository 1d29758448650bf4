/-! ## class DrownedNamesModel: premium and storm -/
section
variable {l : Launch} {D : Dt_} {a σ : Mm_} {post : Option Av_ → Mm_ → Prop}
theorem ct_X7_no (h : post (some (vl_ (-9223372036854775806))) σ) : V_ l D mX7_no (CM_ D mX7_no post) 0 [some (vi_ (-2))] [] σ := by
  refine V_ldc2 (v := (-9223372036854775808)) (z := -9223372036854775808) (pc := 0) dX7_no_0 (tb_in 1140 (by decide +kernel) rfl) (by decide +kernel) ?_
  refine V_iload_n (pc := 3) dX7_no_3 rfl rfl ?_
  refine V_i2l (pc := 4) dX7_no_4 (by first | assumption | exact b2_rg | decide | (constructor <;> omega)) ?_
  refine V_lsub (pc := 5) dX7_no_5 ?_
  refine V_lreturn (pc := 6) dX7_no_6 rfl (fun hR => ?_)
  exact h
theorem ct_X7_fair {k : Int} (h_k : Rg_ k) {w : Int} (h_w : Rg_ w) (h : MR_ a σ) (hK : ∀ τ, MR_ a τ → Gm_ σ τ → post (some (vl_ (an_fair a k w))) τ) : V_ l D mX7_fair (CM_ D mX7_fair post) 0 [some (vr_ 38), some (vi_ k), some (vi_ w)] [] σ := by
  have hA := h.1
  have hW := vv_WF hA
  have hU : LW_ (uu_ a) := hA.2.2.2.1
  have hw : WW_ (ww_ a) := hA.2.2.2.2.1
  have ws := hW.s
  have wn := hW.n
  have wl := hW.l
  refine V_aload_n (pc := 0) dX7_fair_0 rfl rfl ?_
  refine V_callV (pc := 1) (as := []) (rest := []) dX7_fair_1 ⟨kX7_124, iX7_reads, by decide, by decide⟩ rc_38 rfl rfl (Nat.le_of_ble_eq_true rfl) (Nat.le_of_ble_eq_true rfl) ?_
  refine ct_X7_reads h (fun τ hM hQ hP => ?_)
  have hsd := hQ.2.2.1.2.2
  have hL : LM_ (uu_ a) τ := hQ.2.2.2.1
  have hG : GM_ (ww_ a) τ := hQ.2.2.2.2.1
  show V_ _ _ _ _ _ _ [] _
  refine V_aload_n (pc := 4) dX7_fair_4 rfl rfl ?_
  refine V_iload_n (pc := 5) dX7_fair_5 rfl rfl ?_
  refine V_callV (pc := 6) (as := [_]) (rest := []) dX7_fair_6 ⟨kX7_133, iX7_isName, by decide, by decide⟩ rc_38 rfl rfl (Nat.le_of_ble_eq_true rfl) (Nat.le_of_ble_eq_true rfl) ?_
  refine ct_X7_isName (by first | assumption | exact b2_rg | decide | (constructor <;> omega)) hM.1.2.1 (by omega) ?_
  show V_ _ _ _ _ _ _ [_] _
  refine V_if_eq (tgt := 28) (pc := 9) dX7_fair_9 (by decide) b2_rg (fun h9 => ?_) (fun h9 => ?_)
  · skip
    rw [b2_0] at h9
    have e : an_fair a k w = -9223372036854775806 := by unfold an_fair; rw [if_neg (by omega)]
    refine V_bipush (pc := 28) dX7_fair_28 (by decide) ?_
    refine V_callS (pc := 30) (as := [_]) (rest := []) dX7_fair_30 ⟨kX7_261, sX7_no, by decide, by decide⟩ rfl rfl (Nat.le_of_ble_eq_true rfl) (Nat.le_of_ble_eq_true rfl) ?_
    refine ct_X7_no ?_
    show V_ _ _ _ _ _ _ [_] _
    refine V_lreturn (pc := 33) dX7_fair_33 rfl (fun hR => ?_)
    first | exact rl_ e.symm (hK _ hQ hP.gm) | exact rl_ (by unfold an_fair; rw [if_pos (by omega)]) (hK _ hQ hP.gm) | exact rl_ (by unfold an_fair; rw [if_pos (by omega)]) (hK _ (hQ.pf hB.pf) (hP.tr hB.pf).gm)
  · skip
    rw [b2_n0] at h9
    refine V_iload_n (pc := 12) dX7_fair_12 rfl rfl ?_
    refine V_callS (pc := 13) (as := [_]) (rest := []) dX7_fair_13 ⟨kX7_130, sX7_isTwo, by decide, by decide⟩ rfl rfl (Nat.le_of_ble_eq_true rfl) (Nat.le_of_ble_eq_true rfl) ?_
    refine ct_X7_isTwo (by first | assumption | exact b2_rg | decide | (constructor <;> omega)) ?_
    show V_ _ _ _ _ _ _ [_] _
    refine V_if_eq (tgt := 28) (pc := 16) dX7_fair_16 (by decide) b2_rg (fun h16 => ?_) (fun h16 => ?_)
    · skip
      rw [b2_0] at h16
      have e : an_fair a k w = -9223372036854775806 := by unfold an_fair; rw [if_neg (by omega)]
      refine V_bipush (pc := 28) dX7_fair_28 (by decide) ?_
      refine V_callS (pc := 30) (as := [_]) (rest := []) dX7_fair_30 ⟨kX7_261, sX7_no, by decide, by decide⟩ rfl rfl (Nat.le_of_ble_eq_true rfl) (Nat.le_of_ble_eq_true rfl) ?_
      refine ct_X7_no ?_
      show V_ _ _ _ _ _ _ [_] _
      refine V_lreturn (pc := 33) dX7_fair_33 rfl (fun hR => ?_)
      first | exact rl_ e.symm (hK _ hQ hP.gm) | exact rl_ (by unfold an_fair; rw [if_pos (by omega)]) (hK _ hQ hP.gm) | exact rl_ (by unfold an_fair; rw [if_pos (by omega)]) (hK _ (hQ.pf hB.pf) (hP.tr hB.pf).gm)
    · skip
      rw [b2_n0] at h16
      refine V_aload_n (pc := 19) dX7_fair_19 rfl rfl ?_
      refine V_iload_n (pc := 20) dX7_fair_20 rfl rfl ?_
      refine V_iload_n (pc := 21) dX7_fair_21 rfl rfl ?_
      refine V_callV (pc := 22) (as := [_, _]) (rest := []) dX7_fair_22 ⟨kX7_257, iX7_fairOf, by decide, by decide⟩ rc_38 rfl rfl (Nat.le_of_ble_eq_true rfl) (Nat.le_of_ble_eq_true rfl) ?_
      refine ct_X7_fairOf hW hM h9 h_w ?_
      show V_ _ _ _ _ _ _ [_] _
      refine V_goto (tgt := 33) (pc := 25) dX7_fair_25 (by decide) ?_
      refine V_lreturn (pc := 33) dX7_fair_33 rfl (fun hR => ?_)
      first | exact rl_ e.symm (hK _ hQ hP.gm) | exact rl_ (by unfold an_fair; rw [if_pos (by omega)]) (hK _ hQ hP.gm) | exact rl_ (by unfold an_fair; rw [if_pos (by omega)]) (hK _ (hQ.pf hB.pf) (hP.tr hB.pf).gm)
theorem ct_X7_storm {k : Int} (h_k : Rg_ k) {m : Int} (h_m : Rg_ m) {w : Int} (h_w : Rg_ w) (h : MR_ a σ) (hK : ∀ τ, MR_ a τ → Gm_ σ τ → post (some (vl_ (an_storm a k m w))) τ) : V_ l D mX7_storm (CM_ D mX7_storm post) 0 [some (vr_ 38), some (vi_ k), some (vi_ m), some (vi_ w)] [] σ := by
  have hA := h.1
  have hW := vv_WF hA
  have hU : LW_ (uu_ a) := hA.2.2.2.1
  have hw : WW_ (ww_ a) := hA.2.2.2.2.1
  have ws := hW.s
  have wn := hW.n
  have wl := hW.l
  refine V_aload_n (pc := 0) dX7_storm_0 rfl rfl ?_
  refine V_callV (pc := 1) (as := []) (rest := []) dX7_storm_1 ⟨kX7_124, iX7_reads, by decide, by decide⟩ rc_38 rfl rfl (Nat.le_of_ble_eq_true rfl) (Nat.le_of_ble_eq_true rfl) ?_
  refine ct_X7_reads h (fun τ hM hQ hP => ?_)
  have hsd := hQ.2.2.1.2.2
  have hL : LM_ (uu_ a) τ := hQ.2.2.2.1
  have hG : GM_ (ww_ a) τ := hQ.2.2.2.2.1
  show V_ _ _ _ _ _ _ [] _
  refine V_aload_n (pc := 4) dX7_storm_4 rfl rfl ?_
  refine V_iload_n (pc := 5) dX7_storm_5 rfl rfl ?_
  refine V_callV (pc := 6) (as := [_]) (rest := []) dX7_storm_6 ⟨kX7_133, iX7_isName, by decide, by decide⟩ rc_38 rfl rfl (Nat.le_of_ble_eq_true rfl) (Nat.le_of_ble_eq_true rfl) ?_
  refine ct_X7_isName (by first | assumption | exact b2_rg | decide | (constructor <;> omega)) hM.1.2.1 (by omega) ?_
  show V_ _ _ _ _ _ _ [_] _
  refine V_if_eq (tgt := 41) (pc := 9) dX7_storm_9 (by decide) b2_rg (fun h9 => ?_) (fun h9 => ?_)
  · skip
    rw [b2_0] at h9
    have e : an_storm a k m w = -9223372036854775806 := by unfold an_storm; rw [if_neg (by omega)]
    refine V_bipush (pc := 41) dX7_storm_41 (by decide) ?_
    refine V_callS (pc := 43) (as := [_]) (rest := []) dX7_storm_43 ⟨kX7_261, sX7_no, by decide, by decide⟩ rfl rfl (Nat.le_of_ble_eq_true rfl) (Nat.le_of_ble_eq_true rfl) ?_
    refine ct_X7_no ?_
    show V_ _ _ _ _ _ _ [_] _
    refine V_lreturn (pc := 46) dX7_storm_46 rfl (fun hR => ?_)
    first | exact rl_ e.symm (hK _ hQ hP.gm) | exact rl_ (by unfold an_storm; rw [if_pos (by omega)]) (hK _ hQ hP.gm) | exact rl_ (by unfold an_storm; rw [if_pos (by omega)]) (hK _ (hQ.pf hB.pf) (hP.tr hB.pf).gm)
  · skip
    rw [b2_n0] at h9
    refine V_iload_n (pc := 12) dX7_storm_12 rfl rfl ?_
    refine V_i2l (pc := 13) dX7_storm_13 (by first | assumption | exact b2_rg | decide | (constructor <;> omega)) ?_
    refine V_lconst (z := 0) (pc := 14) dX7_storm_14 rfl ?_
    refine V_ldc2 (v := (99)) (z := 99) (pc := 15) dX7_storm_15 (tb_in 1145 (by decide +kernel) rfl) (by decide +kernel) ?_
    refine V_callS (pc := 18) (as := [_, _, _]) (rest := []) dX7_storm_18 ⟨kX7_61, sX7_in, by decide, by decide⟩ rfl rfl (Nat.le_of_ble_eq_true rfl) (Nat.le_of_ble_eq_true rfl) ?_
    refine ct_X7_in (by constructor <;> omega) (by constructor <;> omega) (by constructor <;> omega) ?_
    show V_ _ _ _ _ _ _ [_] _
    refine V_if_eq (tgt := 41) (pc := 21) dX7_storm_21 (by decide) b2_rg (fun h21 => ?_) (fun h21 => ?_)
    · skip
      rw [b2_0] at h21
      have e : an_storm a k m w = -9223372036854775806 := by unfold an_storm; rw [if_neg (by omega)]
      refine V_bipush (pc := 41) dX7_storm_41 (by decide) ?_
      refine V_callS (pc := 43) (as := [_]) (rest := []) dX7_storm_43 ⟨kX7_261, sX7_no, by decide, by decide⟩ rfl rfl (Nat.le_of_ble_eq_true rfl) (Nat.le_of_ble_eq_true rfl) ?_
      refine ct_X7_no ?_
      show V_ _ _ _ _ _ _ [_] _
      refine V_lreturn (pc := 46) dX7_storm_46 rfl (fun hR => ?_)
      first | exact rl_ e.symm (hK _ hQ hP.gm) | exact rl_ (by unfold an_storm; rw [if_pos (by omega)]) (hK _ hQ hP.gm) | exact rl_ (by unfold an_storm; rw [if_pos (by omega)]) (hK _ (hQ.pf hB.pf) (hP.tr hB.pf).gm)
    · skip
      rw [b2_n0] at h21
      refine V_iload_n (pc := 24) dX7_storm_24 rfl rfl ?_
      refine V_callS (pc := 25) (as := [_]) (rest := []) dX7_storm_25 ⟨kX7_130, sX7_isTwo, by decide, by decide⟩ rfl rfl (Nat.le_of_ble_eq_true rfl) (Nat.le_of_ble_eq_true rfl) ?_
      refine ct_X7_isTwo (by first | assumption | exact b2_rg | decide | (constructor <;> omega)) ?_
      show V_ _ _ _ _ _ _ [_] _
      refine V_if_eq (tgt := 41) (pc := 28) dX7_storm_28 (by decide) b2_rg (fun h28 => ?_) (fun h28 => ?_)
      · skip
        rw [b2_0] at h28
        have e : an_storm a k m w = -9223372036854775806 := by unfold an_storm; rw [if_neg (by omega)]
        refine V_bipush (pc := 41) dX7_storm_41 (by decide) ?_
        refine V_callS (pc := 43) (as := [_]) (rest := []) dX7_storm_43 ⟨kX7_261, sX7_no, by decide, by decide⟩ rfl rfl (Nat.le_of_ble_eq_true rfl) (Nat.le_of_ble_eq_true rfl) ?_
        refine ct_X7_no ?_
        show V_ _ _ _ _ _ _ [_] _
        refine V_lreturn (pc := 46) dX7_storm_46 rfl (fun hR => ?_)
        first | exact rl_ e.symm (hK _ hQ hP.gm) | exact rl_ (by unfold an_storm; rw [if_pos (by omega)]) (hK _ hQ hP.gm) | exact rl_ (by unfold an_storm; rw [if_pos (by omega)]) (hK _ (hQ.pf hB.pf) (hP.tr hB.pf).gm)
      · skip
        rw [b2_n0] at h28
        refine V_aload_n (pc := 31) dX7_storm_31 rfl rfl ?_
        refine V_iload_n (pc := 32) dX7_storm_32 rfl rfl ?_
        refine V_iload_n (pc := 33) dX7_storm_33 rfl rfl ?_
        refine V_iload_n (pc := 34) dX7_storm_34 rfl rfl ?_
        refine V_callV (pc := 35) (as := [_, _, _]) (rest := []) dX7_storm_35 ⟨kX7_267, iX7_stormOf, by decide, by decide⟩ rc_38 rfl rfl (Nat.le_of_ble_eq_true rfl) (Nat.le_of_ble_eq_true rfl) ?_
        refine ct_X7_stormOf hW h9 h21 h_w hM hsd (fun ρ hB => ?_)
        show V_ _ _ _ _ _ _ [_] _
        refine V_goto (tgt := 46) (pc := 38) dX7_storm_38 (by decide) ?_
        refine V_lreturn (pc := 46) dX7_storm_46 rfl (fun hR => ?_)
        first | exact rl_ e.symm (hK _ hQ hP.gm) | exact rl_ (by unfold an_storm; rw [if_pos (by omega)]) (hK _ hQ hP.gm) | exact rl_ (by unfold an_storm; rw [if_pos (by omega)]) (hK _ (hQ.pf hB.pf) (hP.tr hB.pf).gm)
end
