/-! ## class DrownedNames: ships, names, lines, losses; who bears; years -/
theorem rt_ {post : Option Av_ → Mm_ → Prop} {σ : Mm_} {x z : Int} (e : z = x) (h : post (some (vi_ x)) σ) : post (some (vi_ z)) σ := e ▸ h
theorem rl_ {post : Option Av_ → Mm_ → Prop} {σ : Mm_} {x z : Int} (e : z = x) (h : post (some (vl_ x)) σ) : post (some (vl_ z)) σ := e ▸ h
def an_ship (a : Mm_) (k w : Int) : Int := if wS_ (vv_ a) k ∧ 0 ≤ w ∧ w ≤ 1 then (if w = 0 then vv_ a 1 k.toNat else vv_ a 2 k.toNat) else -2
def an_name (a : Mm_) (k w : Int) : Int := if ¬ wN_ (vv_ a) k then -2 else if w = 0 then vv_ a 4 k.toNat else if w = 1 then vv_ a 6 k.toNat else if w = 2 then vv_ a 5 k.toNat else -2
def an_line (a : Mm_) (k w : Int) : Int := if ¬ (0 ≤ k ∧ k < vv_ a 7 0) then -2 else if w = 0 then vv_ a 8 k.toNat else if w = 1 then vv_ a 9 k.toNat else if w = 2 then vv_ a 10 k.toNat else if w = 3 then du_ (vv_ a) k.toNat else -2
def nx_struck (a : Mm_) (s : Int) : Int × Mm_ := if ¬ (0 ≤ s ∧ s ≤ 255) then (-2, a) else (a 4 0, ms_ a 4 0 s)
def ap_ (a : Mm_) (y s : Int) : Mm_ := ms_ (ms_ (ms_ a 6 (a 5 0).toNat y) 7 (a 5 0).toNat s) 5 0 (a 5 0 + 1)
def nx_loss (a : Mm_) (y s : Int) : Int × Mm_ := if ¬ ((0 ≤ y ∧ y ≤ 29) ∧ (0 ≤ s ∧ s ≤ 5)) then (-2, a) else if 12 ≤ a 5 0 then (-4, a) else (a 5 0 + 1, ap_ a y s)
def nx_back (a : Mm_) : Int × Mm_ := if a 5 0 = 0 then (-3, a) else (a 5 0 - 1, ms_ a 5 0 (a 5 0 - 1))
def nx_seen (a : Mm_) (s p : Int) : Int × Mm_ := if ¬ ((0 ≤ s ∧ s ≤ 5) ∧ (0 ≤ p ∧ p ≤ 999)) then (-2, a) else if 8 ≤ a 8 0 then (-4, a) else (a 8 0 + 1, ms_ (ms_ (ms_ a 9 (a 8 0).toNat s) 10 (a 8 0).toNat p) 8 0 (a 8 0 + 1))
def nx_forget (a : Mm_) : Int × Mm_ := (a 8 0, ms_ a 8 0 0)
def an_bearer (a : Mm_) (k w : Int) : Int := if ¬ wN_ (vv_ a) k then -2 else if w = 0 then bb_ (vv_ a) k else if w = 1 then bs_ (fun j => decide (bb_ (vv_ a) (j : Int) = k)) (vv_ a 3 0).toNat else if w = 2 then (if bb_ (vv_ a) k = -1 then 1 else 0) else -2
def an_borne (a : Mm_) (s k : Int) : Int := if wS_ (vv_ a) s ∧ wN_ (vv_ a) k then bo_ (vv_ a) s k (vv_ a 7 0).toNat else -2
def an_unborne (a : Mm_) (s : Int) : Int := if wS_ (vv_ a) s then bo_ (vv_ a) s (-1) (vv_ a 7 0).toNat else -2
def lv2_ (a : Mm_) (y : Int) : Mm_ := li_ (vv_ a) (uu_ a) (y.toNat + 1)
def an_left (a : Mm_) (y k : Int) : Int := if (0 ≤ y ∧ y ≤ 29) ∧ wN_ (vv_ a) k then lv2_ a y 0 k.toNat else -2
def an_behind (a : Mm_) (y w : Int) : Int := if (0 ≤ y ∧ y ≤ 29) ∧ (0 ≤ w ∧ w ≤ 1) then (if w = 0 then lv2_ a y 2 1 else lv2_ a y 2 0) else -2
def an_paid (a : Mm_) (y s : Int) : Int := if (0 ≤ y ∧ y ≤ 29) ∧ wS_ (vv_ a) s then lv2_ a y 1 s.toNat else -2
def an_first (a : Mm_) (w : Int) : Int := if 0 ≤ w ∧ w ≤ 1 then (if w = 0 then lv2_ a 29 2 2 else lv2_ a 29 2 3) else -2
/-- a change of losses and what was seen, alone -/
theorem CR_.tell {a a' σ σ' : Mm_} (h : CR_ a σ) (hA : LW_ (uu_ a') ∧ WW_ (ww_ a') ∧ RM_ a') (e : ∀ k, k ≠ 7 → k ≠ 8 → k ≠ 9 → k ≠ 32 → k ≠ 33 → k ≠ 34 → σ' k = σ k) (ea : ∀ k, (k < 5 ∨ 10 < k) → a' k = a k) (hL : LC_ (uu_ a') σ') (hW : WC_ (ww_ a') σ') : CR_ a' σ' := by
  obtain ⟨⟨h1, h2, h3, h4, h5, h6⟩, h7, h8⟩ := h
  have ev : vv_ a' = vv_ a := vv_cg (ea _ (by decide)) (ea _ (by decide)) (ea _ (by decide)) (ea _ (by decide)) (ea _ (by decide))
  refine ⟨⟨?_, ?_, ⟨?_, ?_⟩, hL, hW, ?_⟩, ?_, ?_⟩
  · obtain ⟨q0, q1, q4, q5, q6, q7, q8, q9⟩ := h1
    refine ⟨?_, ?_, ?_, hA.1, hA.2.1, ?_, ?_, hA.2.2⟩
    · rw [ea _ (by decide)]; exact q0
    · rw [ea _ (by decide), ea _ (by decide), ea _ (by decide)]; exact q1
    · rw [ea _ (by decide)]; exact q4
    · rw [ea _ (by decide), ea _ (by decide)]; exact q7
    · rw [ea _ (by decide)]; exact q8
  · unfold TR_ at h2 ⊢
    rw [ea _ (by decide), ea _ (by decide), ea _ (by decide), ea _ (by decide), e 1 (by decide) (by decide) (by decide) (by decide) (by decide) (by decide), e 2 (by decide) (by decide) (by decide) (by decide) (by decide) (by decide), e 3 (by decide) (by decide) (by decide) (by decide) (by decide) (by decide), e 4 (by decide) (by decide) (by decide) (by decide) (by decide) (by decide), e 5 (by decide) (by decide) (by decide) (by decide) (by decide) (by decide), e 6 (by decide) (by decide) (by decide) (by decide) (by decide) (by decide)]; exact h2
  · rw [ea _ (by decide), e 0 (by decide) (by decide) (by decide) (by decide) (by decide) (by decide)]; exact h3.1
  · rw [ea _ (by decide), e 0 (by decide) (by decide) (by decide) (by decide) (by decide) (by decide)]; exact h3.2
  · exact h6.cg (fun k h1 h2 => e k (by omega) (by omega) (by omega) (by omega) (by omega) (by omega)) (fun k h1 h2 => ea k (by omega))
  · rw [ev]; exact h7.cg (fun a b h1 h2 => by rw [e _ (by omega) (by omega) (by omega) (by omega) (by omega) (by omega)])
  · rw [ev]; exact h8.cg (fun a b h1 h2 => by rw [e _ (by omega) (by omega) (by omega) (by omega) (by omega) (by omega)])
theorem CR_.app {a σ : Mm_} (h : CR_ a σ) {y s : Int} (hy : 0 ≤ y ∧ y ≤ 29) (hs : 0 ≤ s ∧ s ≤ 5) {q : Nat} (hq : a 5 0 = (q : Int)) (hqc : q < 12) : CR_ (ap_ a y s) (ms_ (ms_ (ms_ σ 8 q y) 9 q s) 7 2 ((q : Int) + 1)) := by
  have hA := h.1.1
  have hL := h.1.2.2.2.1
  have hLW := hA.2.2.2.1
  have hW := h.1.2.2.2.2.1
  have hWW := hA.2.2.2.2.1
  have ew : ww_ (ap_ a y s) = ww_ a := ww_cg (by unfold ap_; rw [ms_rw (by decide), ms_rw (by decide), ms_rw (by decide)]) (by unfold ap_; rw [ms_rw (by decide), ms_rw (by decide), ms_rw (by decide)]) (by unfold ap_; rw [ms_rw (by decide), ms_rw (by decide), ms_rw (by decide)])
  have e0 : uu_ (ap_ a y s) 0 0 = (q : Int) + 1 := by show ap_ a y s 5 0 = _; unfold ap_; rw [ms_eq, hq]
  have e1 : ∀ i, uu_ (ap_ a y s) 1 i = if i = q then y else uu_ a 1 i := fun i => by show ap_ a y s 6 i = if i = q then y else a 6 i; unfold ap_; rw [hq]; simp [ms_]
  have e2 : ∀ i, uu_ (ap_ a y s) 2 i = if i = q then s else uu_ a 2 i := fun i => by show ap_ a y s 7 i = if i = q then s else a 7 i; unfold ap_; rw [hq]; simp [ms_]
  have hu0 : uu_ a 0 0 = (q : Int) := hq
  refine h.tell ⟨⟨by rw [e0]; omega, fun i hi => ?_⟩, by rw [ew]; exact hWW, ?_⟩ (fun k a1 a2 a3 _ _ _ => by rw [ms_rw (by omega), ms_rw (by omega), ms_rw (by omega)]) (fun k hk => by unfold ap_; rw [ms_rw (by omega), ms_rw (by omega), ms_rw (by omega)]) ⟨by rw [e0, ms_eq], fun i hi => ?_⟩ ?_
  · rw [e0] at hi
    rw [e1, e2]
    by_cases c : i = q
    · rw [if_pos c, if_pos c]; exact ⟨hy, hs⟩
    · rw [if_neg c, if_neg c]; exact hLW.2 i (by omega)
  · unfold ap_
    exact ((hA.2.2.2.2.2.2.2.ms (by constructor <;> omega)).ms (by constructor <;> omega)).ms (by constructor <;> omega)
  · rw [e0] at hi
    rw [e1, e2]
    by_cases c : i = q
    · rw [if_pos c, if_pos c, c]; simp [ms_]
    · have := hL.2 i (by omega)
      rw [if_neg c, if_neg c]
      simp [ms_, c]; exact this
  · rw [ew]
    unfold WC_ at hW ⊢
    simp only [ms_rw, ne_eq, Nat.reduceEqDiff, not_false_eq_true]
    exact hW
section
variable {l : Launch} {D : Dt_} {a σ : Mm_} {post : Option Av_ → Mm_ → Prop}
theorem ct_X6_ship {k w : Int} (hk : Rg_ k) (hw : Rg_ w) (h : CR_ a σ) (hK : ∀ σ1, CR_ a σ1 → Fm_ σ σ1 → post (some (vi_ (an_ship a k w))) σ1) : V_ l D mX6_ship (CM_ D mX6_ship post) 0 [some (vr_ 0), some (vi_ k), some (vi_ w)] [] σ := by
  have hA := h.1.1
  have hW := vv_WF hA
  have hC := h.2.1
  have hD := h.2.2
  have ws := hW.s
  have wn := hW.n
  have wl := hW.l
  refine V_aload_n (pc := 0) dX6_ship_0 rfl rfl ?_
  refine V_getr (pc := 1) dX6_ship_1 fX6_53 rfl gg_0 rfl ?_
  refine V_iload_n (pc := 4) dX6_ship_4 rfl rfl ?_
  refine V_callV (pc := 5) (as := [_]) (rest := []) dX6_ship_5 ⟨kX6_100, iX1_hasShip, by decide, by decide⟩ rc_19 rfl rfl (Nat.le_of_ble_eq_true rfl) (Nat.le_of_ble_eq_true rfl) ?_
  refine ct_X1_hasShip (by first | assumption | decide | omega | exact ba_rg hR | exact b2_rg) hC.1 ?_
  show V_ _ _ _ _ _ _ [_] _
  refine V_if_eq (tgt := 19) (pc := 8) dX6_ship_8 (by decide) (by first | assumption | decide | omega | exact ba_rg hR | exact b2_rg) (fun h8 => ?_) (fun h8 => ?_)
  · skip
    rw [b2_0] at h8
    refine V_bipush (pc := 19) dX6_ship_19 (by decide) ?_
    refine V_ireturn (pc := 21) dX6_ship_21 rfl rfl (fun hR => ?_)
    exact rt_ (by unfold an_ship; first | rfl | ((repeat' split) <;> first | rfl | (exfalso; omega))) (hK σ h (Fm_.rf))
  · skip
    rw [b2_n0] at h8
    refine V_iload_n (pc := 11) dX6_ship_11 rfl rfl ?_
    refine V_iconst (pc := 12) dX6_ship_12 ?_
    refine V_callS (pc := 13) (as := [_, _]) (rest := []) dX6_ship_13 ⟨kX6_78, sX6_isWithin, by decide, by decide⟩ rfl rfl (Nat.le_of_ble_eq_true rfl) (Nat.le_of_ble_eq_true rfl) ?_
    refine ct_X6_isWithin (by first | assumption | decide | omega | exact ba_rg hR | exact b2_rg) (by first | assumption | decide | omega | exact ba_rg hR | exact b2_rg) ?_
    show V_ _ _ _ _ _ _ [_] _
    refine V_if_ne (tgt := 22) (pc := 16) dX6_ship_16 (by decide) (by first | assumption | decide | omega | exact ba_rg hR | exact b2_rg) (fun h16 => ?_) (fun h16 => ?_)
    · skip
      rw [b2_n0] at h16
      refine V_iload_n (pc := 22) dX6_ship_22 rfl rfl ?_
      refine V_if_ne (tgt := 38) (pc := 23) dX6_ship_23 (by decide) (by first | assumption | decide | omega | exact ba_rg hR | exact b2_rg) (fun h23 => ?_) (fun h23 => ?_)
      · skip
        refine V_aload_n (pc := 38) dX6_ship_38 rfl rfl ?_
        refine V_getr (pc := 39) dX6_ship_39 fX6_53 rfl gg_0 rfl ?_
        refine V_getr (pc := 42) dX6_ship_42 fX6_108 rfl gg_19 rfl ?_
        refine V_iload_n (pc := 45) dX6_ship_45 rfl rfl ?_
        refine V_iald (pc := 46) dX6_ship_46 gg_21 (by omega) (by decide) (fun r46 => ?_)
        rw [(hC.si (k := k.toNat) (by omega)).2] at r46 ⊢
        refine V_ireturn (pc := 47) dX6_ship_47 rfl rfl (fun hR => ?_)
        exact rt_ (by unfold an_ship; first | rfl | ((repeat' split) <;> first | rfl | (exfalso; omega))) (hK σ h (Fm_.rf))
      · skip
        refine V_aload_n (pc := 26) dX6_ship_26 rfl rfl ?_
        refine V_getr (pc := 27) dX6_ship_27 fX6_53 rfl gg_0 rfl ?_
        refine V_getr (pc := 30) dX6_ship_30 fX6_104 rfl gg_19 rfl ?_
        refine V_iload_n (pc := 33) dX6_ship_33 rfl rfl ?_
        refine V_iald (pc := 34) dX6_ship_34 gg_20 (by omega) (by decide) (fun r34 => ?_)
        rw [(hC.si (k := k.toNat) (by omega)).1] at r34 ⊢
        refine V_goto (tgt := 47) (pc := 35) dX6_ship_35 (by decide) ?_
        refine V_ireturn (pc := 47) dX6_ship_47 rfl rfl (fun hR => ?_)
        exact rt_ (by unfold an_ship; first | rfl | ((repeat' split) <;> first | rfl | (exfalso; omega))) (hK σ h (Fm_.rf))
    · skip
      rw [b2_0] at h16
      refine V_bipush (pc := 19) dX6_ship_19 (by decide) ?_
      refine V_ireturn (pc := 21) dX6_ship_21 rfl rfl (fun hR => ?_)
      exact rt_ (by unfold an_ship; first | rfl | ((repeat' split) <;> first | rfl | (exfalso; omega))) (hK σ h (Fm_.rf))
theorem ct_X6_name {k w : Int} (hk : Rg_ k) (hw : Rg_ w) (h : CR_ a σ) (hK : ∀ σ1, CR_ a σ1 → Fm_ σ σ1 → post (some (vi_ (an_name a k w))) σ1) : V_ l D mX6_name (CM_ D mX6_name post) 0 [some (vr_ 0), some (vi_ k), some (vi_ w)] [] σ := by
  have hA := h.1.1
  have hW := vv_WF hA
  have hC := h.2.1
  have hD := h.2.2
  have ws := hW.s
  have wn := hW.n
  have wl := hW.l
  by_cases c0 : w = 0
  · subst c0
    refine V_aload_n (pc := 0) dX6_name_0 rfl rfl ?_
    refine V_getr (pc := 1) dX6_name_1 fX6_53 rfl gg_0 rfl ?_
    refine V_iload_n (pc := 4) dX6_name_4 rfl rfl ?_
    refine V_callV (pc := 5) (as := [_]) (rest := []) dX6_name_5 ⟨kX6_111, iX1_hasName, by decide, by decide⟩ rc_19 rfl rfl (Nat.le_of_ble_eq_true rfl) (Nat.le_of_ble_eq_true rfl) ?_
    refine ct_X1_hasName (by first | assumption | decide | omega | exact ba_rg hR | exact b2_rg) hC.2.1 ?_
    show V_ _ _ _ _ _ _ [_] _
    refine V_if_ne (tgt := 14) (pc := 8) dX6_name_8 (by decide) (by first | assumption | decide | omega | exact ba_rg hR | exact b2_rg) (fun h8 => ?_) (fun h8 => ?_)
    · skip
      rw [b2_n0] at h8
      refine V_iload_n (pc := 14) dX6_name_14 rfl rfl ?_
      refine V_tableIn (tgt := 40) (off := 25) (pc := 15) dX6_name_15 (by decide) (by decide) (by decide) (by decide) (by decide) ?_
      refine V_aload_n (pc := 40) dX6_name_40 rfl rfl ?_
      refine V_getr (pc := 41) dX6_name_41 fX6_53 rfl gg_0 rfl ?_
      refine V_getr (pc := 44) dX6_name_44 fX6_114 rfl gg_19 rfl ?_
      refine V_iload_n (pc := 47) dX6_name_47 rfl rfl ?_
      refine V_iald (pc := 48) dX6_name_48 gg_22 (by omega) (by decide) (fun r48 => ?_)
      rw [(hC.ni (k := k.toNat) (by omega)).1] at r48 ⊢
      refine V_ireturn (pc := 49) dX6_name_49 rfl rfl (fun hR => ?_)
      exact rt_ (by unfold an_name; first | rfl | ((repeat' split) <;> first | rfl | (exfalso; omega))) (hK σ h (Fm_.rf))
    · skip
      rw [b2_0] at h8
      refine V_bipush (pc := 11) dX6_name_11 (by decide) ?_
      refine V_ireturn (pc := 13) dX6_name_13 rfl rfl (fun hR => ?_)
      exact rt_ (by unfold an_name; first | rfl | ((repeat' split) <;> first | rfl | (exfalso; omega))) (hK σ h (Fm_.rf))
  by_cases c1 : w = 1
  · subst c1
    refine V_aload_n (pc := 0) dX6_name_0 rfl rfl ?_
    refine V_getr (pc := 1) dX6_name_1 fX6_53 rfl gg_0 rfl ?_
    refine V_iload_n (pc := 4) dX6_name_4 rfl rfl ?_
    refine V_callV (pc := 5) (as := [_]) (rest := []) dX6_name_5 ⟨kX6_111, iX1_hasName, by decide, by decide⟩ rc_19 rfl rfl (Nat.le_of_ble_eq_true rfl) (Nat.le_of_ble_eq_true rfl) ?_
    refine ct_X1_hasName (by first | assumption | decide | omega | exact ba_rg hR | exact b2_rg) hC.2.1 ?_
    show V_ _ _ _ _ _ _ [_] _
    refine V_if_ne (tgt := 14) (pc := 8) dX6_name_8 (by decide) (by first | assumption | decide | omega | exact ba_rg hR | exact b2_rg) (fun h8 => ?_) (fun h8 => ?_)
    · skip
      rw [b2_n0] at h8
      refine V_iload_n (pc := 14) dX6_name_14 rfl rfl ?_
      refine V_tableIn (tgt := 50) (off := 35) (pc := 15) dX6_name_15 (by decide) (by decide) (by decide) (by decide) (by decide) ?_
      refine V_aload_n (pc := 50) dX6_name_50 rfl rfl ?_
      refine V_getr (pc := 51) dX6_name_51 fX6_53 rfl gg_0 rfl ?_
      refine V_iload_n (pc := 54) dX6_name_54 rfl rfl ?_
      refine V_callV (pc := 55) (as := [_]) (rest := []) dX6_name_55 ⟨kX6_117, iX1_isDrowned, by decide, by decide⟩ rc_19 rfl rfl (Nat.le_of_ble_eq_true rfl) (Nat.le_of_ble_eq_true rfl) ?_
      refine ct_X1_isDrowned (by omega) hC.2.2.2.2.2.2 ?_
      show V_ _ _ _ _ _ _ [_] _
      refine V_if_eq (tgt := 65) (pc := 58) dX6_name_58 (by decide) (by first | assumption | decide | omega | exact ba_rg hR | exact b2_rg) (fun h58 => ?_) (fun h58 => ?_)
      · skip
        rw [b2_0] at h58
        refine V_iconst (pc := 65) dX6_name_65 ?_
        refine V_ireturn (pc := 66) dX6_name_66 rfl rfl (fun hR => ?_)
        exact rt_ (by unfold an_name; rw [if_neg (by omega), if_neg (by decide), if_pos rfl]; have e := (hC.ni (k := k.toNat) (by omega)).2.2; rw [show ((k.toNat : Nat) : Int) = k by omega] at e; have w6 := (hW.ni (k := k.toNat) (by omega)).2.2; rw [e] at h58; simp at h58; omega) (hK σ h Fm_.rf)
      · skip
        rw [b2_n0] at h58
        refine V_iconst (pc := 61) dX6_name_61 ?_
        refine V_goto (tgt := 66) (pc := 62) dX6_name_62 (by decide) ?_
        refine V_ireturn (pc := 66) dX6_name_66 rfl rfl (fun hR => ?_)
        exact rt_ (by unfold an_name; rw [if_neg (by omega), if_neg (by decide), if_pos rfl]; have e := (hC.ni (k := k.toNat) (by omega)).2.2; rw [show ((k.toNat : Nat) : Int) = k by omega] at e; have w6 := (hW.ni (k := k.toNat) (by omega)).2.2; rw [e] at h58; simp at h58; omega) (hK σ h Fm_.rf)
    · skip
      rw [b2_0] at h8
      refine V_bipush (pc := 11) dX6_name_11 (by decide) ?_
      refine V_ireturn (pc := 13) dX6_name_13 rfl rfl (fun hR => ?_)
      exact rt_ (by unfold an_name; first | rfl | ((repeat' split) <;> first | rfl | (exfalso; omega))) (hK σ h (Fm_.rf))
  by_cases c2 : w = 2
  · subst c2
    refine V_aload_n (pc := 0) dX6_name_0 rfl rfl ?_
    refine V_getr (pc := 1) dX6_name_1 fX6_53 rfl gg_0 rfl ?_
    refine V_iload_n (pc := 4) dX6_name_4 rfl rfl ?_
    refine V_callV (pc := 5) (as := [_]) (rest := []) dX6_name_5 ⟨kX6_111, iX1_hasName, by decide, by decide⟩ rc_19 rfl rfl (Nat.le_of_ble_eq_true rfl) (Nat.le_of_ble_eq_true rfl) ?_
    refine ct_X1_hasName (by first | assumption | decide | omega | exact ba_rg hR | exact b2_rg) hC.2.1 ?_
    show V_ _ _ _ _ _ _ [_] _
    refine V_if_ne (tgt := 14) (pc := 8) dX6_name_8 (by decide) (by first | assumption | decide | omega | exact ba_rg hR | exact b2_rg) (fun h8 => ?_) (fun h8 => ?_)
    · skip
      rw [b2_n0] at h8
      refine V_iload_n (pc := 14) dX6_name_14 rfl rfl ?_
      refine V_tableIn (tgt := 67) (off := 52) (pc := 15) dX6_name_15 (by decide) (by decide) (by decide) (by decide) (by decide) ?_
      refine V_aload_n (pc := 67) dX6_name_67 rfl rfl ?_
      refine V_getr (pc := 68) dX6_name_68 fX6_53 rfl gg_0 rfl ?_
      refine V_getr (pc := 71) dX6_name_71 fX6_120 rfl gg_19 rfl ?_
      refine V_iload_n (pc := 74) dX6_name_74 rfl rfl ?_
      refine V_iald (pc := 75) dX6_name_75 gg_23 (by omega) (by decide) (fun r75 => ?_)
      rw [(hC.ni (k := k.toNat) (by omega)).2.1] at r75 ⊢
      refine V_ireturn (pc := 76) dX6_name_76 rfl rfl (fun hR => ?_)
      exact rt_ (by unfold an_name; first | rfl | ((repeat' split) <;> first | rfl | (exfalso; omega))) (hK σ h (Fm_.rf))
    · skip
      rw [b2_0] at h8
      refine V_bipush (pc := 11) dX6_name_11 (by decide) ?_
      refine V_ireturn (pc := 13) dX6_name_13 rfl rfl (fun hR => ?_)
      exact rt_ (by unfold an_name; first | rfl | ((repeat' split) <;> first | rfl | (exfalso; omega))) (hK σ h (Fm_.rf))
  refine V_aload_n (pc := 0) dX6_name_0 rfl rfl ?_
  refine V_getr (pc := 1) dX6_name_1 fX6_53 rfl gg_0 rfl ?_
  refine V_iload_n (pc := 4) dX6_name_4 rfl rfl ?_
  refine V_callV (pc := 5) (as := [_]) (rest := []) dX6_name_5 ⟨kX6_111, iX1_hasName, by decide, by decide⟩ rc_19 rfl rfl (Nat.le_of_ble_eq_true rfl) (Nat.le_of_ble_eq_true rfl) ?_
  refine ct_X1_hasName (by first | assumption | decide | omega | exact ba_rg hR | exact b2_rg) hC.2.1 ?_
  show V_ _ _ _ _ _ _ [_] _
  refine V_if_ne (tgt := 14) (pc := 8) dX6_name_8 (by decide) (by first | assumption | decide | omega | exact ba_rg hR | exact b2_rg) (fun h8 => ?_) (fun h8 => ?_)
  · skip
    rw [b2_n0] at h8
    refine V_iload_n (pc := 14) dX6_name_14 rfl rfl ?_
    refine V_tableOut (tgt := 77) (pc := 15) dX6_name_15 (by first | assumption | decide | omega | exact ba_rg hR | exact b2_rg) (by omega) (by decide) ?_
    refine V_bipush (pc := 77) dX6_name_77 (by decide) ?_
    refine V_ireturn (pc := 79) dX6_name_79 rfl rfl (fun hR => ?_)
    exact rt_ (by unfold an_name; first | rfl | ((repeat' split) <;> first | rfl | (exfalso; omega))) (hK σ h (Fm_.rf))
  · skip
    rw [b2_0] at h8
    refine V_bipush (pc := 11) dX6_name_11 (by decide) ?_
    refine V_ireturn (pc := 13) dX6_name_13 rfl rfl (fun hR => ?_)
    exact rt_ (by unfold an_name; first | rfl | ((repeat' split) <;> first | rfl | (exfalso; omega))) (hK σ h (Fm_.rf))
theorem ct_X6_line {k w : Int} (hk : Rg_ k) (hw : Rg_ w) (h : CR_ a σ) (hK : ∀ σ1, CR_ a σ1 → Fm_ σ σ1 → post (some (vi_ (an_line a k w))) σ1) : V_ l D mX6_line (CM_ D mX6_line post) 0 [some (vr_ 0), some (vi_ k), some (vi_ w)] [] σ := by
  have hA := h.1.1
  have hW := vv_WF hA
  have hC := h.2.1
  have hD := h.2.2
  have ws := hW.s
  have wn := hW.n
  have wl := hW.l
  by_cases c0 : w = 0
  · subst c0
    refine V_aload_n (pc := 0) dX6_line_0 rfl rfl ?_
    refine V_getr (pc := 1) dX6_line_1 fX6_53 rfl gg_0 rfl ?_
    refine V_iload_n (pc := 4) dX6_line_4 rfl rfl ?_
    refine V_callV (pc := 5) (as := [_]) (rest := []) dX6_line_5 ⟨kX6_123, iX1_hasLine, by decide, by decide⟩ rc_19 rfl rfl (Nat.le_of_ble_eq_true rfl) (Nat.le_of_ble_eq_true rfl) ?_
    refine ct_X1_hasLine (by first | assumption | decide | omega | exact ba_rg hR | exact b2_rg) hC.2.2.1 ?_
    show V_ _ _ _ _ _ _ [_] _
    refine V_if_ne (tgt := 14) (pc := 8) dX6_line_8 (by decide) (by first | assumption | decide | omega | exact ba_rg hR | exact b2_rg) (fun h8 => ?_) (fun h8 => ?_)
    · skip
      rw [b2_n0] at h8
      refine V_iload_n (pc := 14) dX6_line_14 rfl rfl ?_
      refine V_tableIn (tgt := 44) (off := 29) (pc := 15) dX6_line_15 (by decide) (by decide) (by decide) (by decide) (by decide) ?_
      refine V_aload_n (pc := 44) dX6_line_44 rfl rfl ?_
      refine V_getr (pc := 45) dX6_line_45 fX6_53 rfl gg_0 rfl ?_
      refine V_getr (pc := 48) dX6_line_48 fX6_126 rfl gg_19 rfl ?_
      refine V_iload_n (pc := 51) dX6_line_51 rfl rfl ?_
      refine V_iald (pc := 52) dX6_line_52 gg_24 (by omega) (by decide) (fun r52 => ?_)
      rw [(hC.li (k := k.toNat) (by omega)).1] at r52 ⊢
      refine V_ireturn (pc := 53) dX6_line_53 rfl rfl (fun hR => ?_)
      exact rt_ (by unfold an_line; first | rfl | ((repeat' split) <;> first | rfl | (exfalso; omega))) (hK σ h (Fm_.rf))
    · skip
      rw [b2_0] at h8
      refine V_bipush (pc := 11) dX6_line_11 (by decide) ?_
      refine V_ireturn (pc := 13) dX6_line_13 rfl rfl (fun hR => ?_)
      exact rt_ (by unfold an_line; first | rfl | ((repeat' split) <;> first | rfl | (exfalso; omega))) (hK σ h (Fm_.rf))
  by_cases c1 : w = 1
  · subst c1
    refine V_aload_n (pc := 0) dX6_line_0 rfl rfl ?_
    refine V_getr (pc := 1) dX6_line_1 fX6_53 rfl gg_0 rfl ?_
    refine V_iload_n (pc := 4) dX6_line_4 rfl rfl ?_
    refine V_callV (pc := 5) (as := [_]) (rest := []) dX6_line_5 ⟨kX6_123, iX1_hasLine, by decide, by decide⟩ rc_19 rfl rfl (Nat.le_of_ble_eq_true rfl) (Nat.le_of_ble_eq_true rfl) ?_
    refine ct_X1_hasLine (by first | assumption | decide | omega | exact ba_rg hR | exact b2_rg) hC.2.2.1 ?_
    show V_ _ _ _ _ _ _ [_] _
    refine V_if_ne (tgt := 14) (pc := 8) dX6_line_8 (by decide) (by first | assumption | decide | omega | exact ba_rg hR | exact b2_rg) (fun h8 => ?_) (fun h8 => ?_)
    · skip
      rw [b2_n0] at h8
      refine V_iload_n (pc := 14) dX6_line_14 rfl rfl ?_
      refine V_tableIn (tgt := 54) (off := 39) (pc := 15) dX6_line_15 (by decide) (by decide) (by decide) (by decide) (by decide) ?_
      refine V_aload_n (pc := 54) dX6_line_54 rfl rfl ?_
      refine V_getr (pc := 55) dX6_line_55 fX6_53 rfl gg_0 rfl ?_
      refine V_getr (pc := 58) dX6_line_58 fX6_129 rfl gg_19 rfl ?_
      refine V_iload_n (pc := 61) dX6_line_61 rfl rfl ?_
      refine V_iald (pc := 62) dX6_line_62 gg_25 (by omega) (by decide) (fun r62 => ?_)
      rw [(hC.li (k := k.toNat) (by omega)).2.1] at r62 ⊢
      refine V_ireturn (pc := 63) dX6_line_63 rfl rfl (fun hR => ?_)
      exact rt_ (by unfold an_line; first | rfl | ((repeat' split) <;> first | rfl | (exfalso; omega))) (hK σ h (Fm_.rf))
    · skip
      rw [b2_0] at h8
      refine V_bipush (pc := 11) dX6_line_11 (by decide) ?_
      refine V_ireturn (pc := 13) dX6_line_13 rfl rfl (fun hR => ?_)
      exact rt_ (by unfold an_line; first | rfl | ((repeat' split) <;> first | rfl | (exfalso; omega))) (hK σ h (Fm_.rf))
  by_cases c2 : w = 2
  · subst c2
    refine V_aload_n (pc := 0) dX6_line_0 rfl rfl ?_
    refine V_getr (pc := 1) dX6_line_1 fX6_53 rfl gg_0 rfl ?_
    refine V_iload_n (pc := 4) dX6_line_4 rfl rfl ?_
    refine V_callV (pc := 5) (as := [_]) (rest := []) dX6_line_5 ⟨kX6_123, iX1_hasLine, by decide, by decide⟩ rc_19 rfl rfl (Nat.le_of_ble_eq_true rfl) (Nat.le_of_ble_eq_true rfl) ?_
    refine ct_X1_hasLine (by first | assumption | decide | omega | exact ba_rg hR | exact b2_rg) hC.2.2.1 ?_
    show V_ _ _ _ _ _ _ [_] _
    refine V_if_ne (tgt := 14) (pc := 8) dX6_line_8 (by decide) (by first | assumption | decide | omega | exact ba_rg hR | exact b2_rg) (fun h8 => ?_) (fun h8 => ?_)
    · skip
      rw [b2_n0] at h8
      refine V_iload_n (pc := 14) dX6_line_14 rfl rfl ?_
      refine V_tableIn (tgt := 64) (off := 49) (pc := 15) dX6_line_15 (by decide) (by decide) (by decide) (by decide) (by decide) ?_
      refine V_aload_n (pc := 64) dX6_line_64 rfl rfl ?_
      refine V_getr (pc := 65) dX6_line_65 fX6_53 rfl gg_0 rfl ?_
      refine V_getr (pc := 68) dX6_line_68 fX6_132 rfl gg_19 rfl ?_
      refine V_iload_n (pc := 71) dX6_line_71 rfl rfl ?_
      refine V_iald (pc := 72) dX6_line_72 gg_26 (by omega) (by decide) (fun r72 => ?_)
      rw [(hC.li (k := k.toNat) (by omega)).2.2] at r72 ⊢
      refine V_ireturn (pc := 73) dX6_line_73 rfl rfl (fun hR => ?_)
      exact rt_ (by unfold an_line; first | rfl | ((repeat' split) <;> first | rfl | (exfalso; omega))) (hK σ h (Fm_.rf))
    · skip
      rw [b2_0] at h8
      refine V_bipush (pc := 11) dX6_line_11 (by decide) ?_
      refine V_ireturn (pc := 13) dX6_line_13 rfl rfl (fun hR => ?_)
      exact rt_ (by unfold an_line; first | rfl | ((repeat' split) <;> first | rfl | (exfalso; omega))) (hK σ h (Fm_.rf))
  by_cases c3 : w = 3
  · subst c3
    refine V_aload_n (pc := 0) dX6_line_0 rfl rfl ?_
    refine V_getr (pc := 1) dX6_line_1 fX6_53 rfl gg_0 rfl ?_
    refine V_iload_n (pc := 4) dX6_line_4 rfl rfl ?_
    refine V_callV (pc := 5) (as := [_]) (rest := []) dX6_line_5 ⟨kX6_123, iX1_hasLine, by decide, by decide⟩ rc_19 rfl rfl (Nat.le_of_ble_eq_true rfl) (Nat.le_of_ble_eq_true rfl) ?_
    refine ct_X1_hasLine (by first | assumption | decide | omega | exact ba_rg hR | exact b2_rg) hC.2.2.1 ?_
    show V_ _ _ _ _ _ _ [_] _
    refine V_if_ne (tgt := 14) (pc := 8) dX6_line_8 (by decide) (by first | assumption | decide | omega | exact ba_rg hR | exact b2_rg) (fun h8 => ?_) (fun h8 => ?_)
    · skip
      rw [b2_n0] at h8
      refine V_iload_n (pc := 14) dX6_line_14 rfl rfl ?_
      refine V_tableIn (tgt := 74) (off := 59) (pc := 15) dX6_line_15 (by decide) (by decide) (by decide) (by decide) (by decide) ?_
      refine V_aload_n (pc := 74) dX6_line_74 rfl rfl ?_
      refine V_getr (pc := 75) dX6_line_75 fX6_53 rfl gg_0 rfl ?_
      refine V_getr (pc := 78) dX6_line_78 fX6_135 rfl gg_19 rfl ?_
      refine V_iload_n (pc := 81) dX6_line_81 rfl rfl ?_
      refine V_iald (pc := 82) dX6_line_82 gg_28 (by omega) (by decide) (fun r82 => ?_)
      rw [hD.2.1 k.toNat (by omega)] at r82 ⊢
      refine V_ireturn (pc := 83) dX6_line_83 rfl rfl (fun hR => ?_)
      exact rt_ (by unfold an_line; first | rfl | ((repeat' split) <;> first | rfl | (exfalso; omega))) (hK σ h (Fm_.rf))
    · skip
      rw [b2_0] at h8
      refine V_bipush (pc := 11) dX6_line_11 (by decide) ?_
      refine V_ireturn (pc := 13) dX6_line_13 rfl rfl (fun hR => ?_)
      exact rt_ (by unfold an_line; first | rfl | ((repeat' split) <;> first | rfl | (exfalso; omega))) (hK σ h (Fm_.rf))
  refine V_aload_n (pc := 0) dX6_line_0 rfl rfl ?_
  refine V_getr (pc := 1) dX6_line_1 fX6_53 rfl gg_0 rfl ?_
  refine V_iload_n (pc := 4) dX6_line_4 rfl rfl ?_
  refine V_callV (pc := 5) (as := [_]) (rest := []) dX6_line_5 ⟨kX6_123, iX1_hasLine, by decide, by decide⟩ rc_19 rfl rfl (Nat.le_of_ble_eq_true rfl) (Nat.le_of_ble_eq_true rfl) ?_
  refine ct_X1_hasLine (by first | assumption | decide | omega | exact ba_rg hR | exact b2_rg) hC.2.2.1 ?_
  show V_ _ _ _ _ _ _ [_] _
  refine V_if_ne (tgt := 14) (pc := 8) dX6_line_8 (by decide) (by first | assumption | decide | omega | exact ba_rg hR | exact b2_rg) (fun h8 => ?_) (fun h8 => ?_)
  · skip
    rw [b2_n0] at h8
    refine V_iload_n (pc := 14) dX6_line_14 rfl rfl ?_
    refine V_tableOut (tgt := 84) (pc := 15) dX6_line_15 (by first | assumption | decide | omega | exact ba_rg hR | exact b2_rg) (by omega) (by decide) ?_
    refine V_bipush (pc := 84) dX6_line_84 (by decide) ?_
    refine V_ireturn (pc := 86) dX6_line_86 rfl rfl (fun hR => ?_)
    exact rt_ (by unfold an_line; first | rfl | ((repeat' split) <;> first | rfl | (exfalso; omega))) (hK σ h (Fm_.rf))
  · skip
    rw [b2_0] at h8
    refine V_bipush (pc := 11) dX6_line_11 (by decide) ?_
    refine V_ireturn (pc := 13) dX6_line_13 rfl rfl (fun hR => ?_)
    exact rt_ (by unfold an_line; first | rfl | ((repeat' split) <;> first | rfl | (exfalso; omega))) (hK σ h (Fm_.rf))
theorem ct_X6_struck {s : Int} (hs : Rg_ s) (h : CR_ a σ) (hK : ∀ σ1, CR_ (nx_struck a s).2 σ1 → Fm_ σ σ1 → post (some (vi_ (nx_struck a s).1)) σ1) : V_ l D mX6_struck (CM_ D mX6_struck post) 0 [some (vr_ 0), some (vi_ s), none] [] σ := by
  have hA := h.1.1
  have hW := vv_WF hA
  have hC := h.2.1
  have hD := h.2.2
  have ws := hW.s
  have wn := hW.n
  have wl := hW.l
  have hT := h.1.2.1
  refine V_iload_n (pc := 0) dX6_struck_0 rfl rfl ?_
  refine V_sipush (pc := 1) dX6_struck_1 (by decide) ?_
  refine V_callS (pc := 4) (as := [_, _]) (rest := []) dX6_struck_4 ⟨kX6_78, sX6_isWithin, by decide, by decide⟩ rfl rfl (Nat.le_of_ble_eq_true rfl) (Nat.le_of_ble_eq_true rfl) ?_
  refine ct_X6_isWithin (by first | assumption | decide | omega | exact ba_rg hR | exact b2_rg) (by first | assumption | decide | omega | exact ba_rg hR | exact b2_rg) ?_
  show V_ _ _ _ _ _ _ [_] _
  refine V_if_ne (tgt := 13) (pc := 7) dX6_struck_7 (by decide) (by first | assumption | decide | omega | exact ba_rg hR | exact b2_rg) (fun h7 => ?_) (fun h7 => ?_)
  · skip
    rw [b2_n0] at h7
    have e : nx_struck a s = (a 4 0, ms_ a 4 0 s) := if_neg (fun z => z h7)
    refine V_aload_n (pc := 13) dX6_struck_13 rfl rfl ?_
    refine V_geti (pc := 14) dX6_struck_14 fX6_138 rfl gg_0 rfl (fun r14 => ?_)
    rw [h.1.2.2.1.1] at r14 ⊢
    refine V_istore_n (pc := 17) dX6_struck_17 rfl (by decide) rfl ?_
    show V_ _ _ _ _ _ [_, _, _] _ _
    refine V_aload_n (pc := 18) dX6_struck_18 rfl rfl ?_
    refine V_iload_n (pc := 19) dX6_struck_19 rfl rfl ?_
    refine V_puti (pc := 20) dX6_struck_20 fX6_138 rfl gg_0 rfl pq_6_9 rfl rfl (by first | assumption | decide | omega | exact ba_rg hR | exact b2_rg) ?_
    refine V_aload_n (pc := 23) dX6_struck_23 rfl rfl ?_
    refine V_callV (pc := 24) (as := []) (rest := []) dX6_struck_24 ⟨kX6_89, iX6_settle, by decide, by decide⟩ rc_0 rfl rfl (Nat.le_of_ble_eq_true rfl) (Nat.le_of_ble_eq_true rfl) ?_
    have hcp : CP_ (ms_ a 4 0 s) (ms_ σ 0 9 s) := by
      refine h.1.text (hA.text (fun k hk => by rw [ms_rw (by omega)]) ?_ ?_ (by rw [ms_eq]; exact h7) (hA.2.2.2.2.2.2.2.ms hs)) (fun k hk => by rw [ms_rw (by omega)]) (fun k hk => by rw [ms_rw (by omega)]) ?_ ⟨?_, ?_⟩
      · rw [ms_rw (by decide)]; exact hA.1
      · rw [ms_rw (by decide), ms_rw (by decide), ms_rw (by decide)]; exact hA.2.1
      · unfold TR_ at hT ⊢
        simp only [ms_rw, ne_eq, Nat.reduceEqDiff, not_false_eq_true]
        exact hT
      · rw [ms_eq, ms_eq]
      · rw [ms_ne (by decide)]
    refine ct_X6_settle hcp (fun σ1 hB1 hB2 => ?_)
    show V_ _ _ _ _ _ _ [] _
    refine V_iload_n (pc := 27) dX6_struck_27 rfl rfl ?_
    refine V_ireturn (pc := 28) dX6_struck_28 rfl rfl (fun hR => ?_)
    have h2 := hK σ1 (by rw [e]; exact hB1) ((Fm_.rf.ms (by decide)).tr hB2)
    rw [e] at h2
    exact h2
  · skip
    rw [b2_0] at h7
    have e : nx_struck a s = (-2, a) := if_pos h7
    refine V_bipush (pc := 10) dX6_struck_10 (by decide) ?_
    refine V_ireturn (pc := 12) dX6_struck_12 rfl rfl (fun hR => ?_)
    have h2 := hK σ (by rw [e]; exact h) Fm_.rf
    rw [e] at h2
    exact h2
theorem ct_X6_loss {y s : Int} (hy : Rg_ y) (hs : Rg_ s) (h : CR_ a σ) (hK : ∀ σ1, CR_ (nx_loss a y s).2 σ1 → Fm_ σ σ1 → post (some (vi_ (nx_loss a y s).1)) σ1) : V_ l D mX6_loss (CM_ D mX6_loss post) 0 [some (vr_ 0), some (vi_ y), some (vi_ s)] [] σ := by
  have hA := h.1.1
  have hW := vv_WF hA
  have hC := h.2.1
  have hD := h.2.2
  have ws := hW.s
  have wn := hW.n
  have wl := hW.l
  have hL := h.1.2.2.2.1
  have hLW := hA.2.2.2.1.1
  obtain ⟨q, hq⟩ := i_nat (show 0 ≤ a 5 0 from hLW.1)
  have hq2 : a 5 0 ≤ 12 := hLW.2
  have hs7 : σ 7 2 = (q : Int) := hL.1.trans hq
  refine V_iload_n (pc := 0) dX6_loss_0 rfl rfl ?_
  refine V_iload_n (pc := 1) dX6_loss_1 rfl rfl ?_
  refine V_callS (pc := 2) (as := [_, _]) (rest := []) dX6_loss_2 ⟨kX6_141, sX6_isLoss, by decide, by decide⟩ rfl rfl (Nat.le_of_ble_eq_true rfl) (Nat.le_of_ble_eq_true rfl) ?_
  refine ct_X6_isLoss (by first | assumption | decide | omega | exact ba_rg hR | exact b2_rg) (by first | assumption | decide | omega | exact ba_rg hR | exact b2_rg) ?_
  show V_ _ _ _ _ _ _ [_] _
  refine V_if_ne (tgt := 11) (pc := 5) dX6_loss_5 (by decide) (by first | assumption | decide | omega | exact ba_rg hR | exact b2_rg) (fun h5 => ?_) (fun h5 => ?_)
  · skip
    rw [b2_n0] at h5
    refine V_aload_n (pc := 11) dX6_loss_11 rfl rfl ?_
    refine V_getr (pc := 12) dX6_loss_12 fX6_35 rfl gg_0 rfl ?_
    refine V_callV (pc := 15) (as := []) (rest := []) dX6_loss_15 ⟨kX6_144, iX2_isFull, by decide, by decide⟩ rc_7 rfl rfl (Nat.le_of_ble_eq_true rfl) (Nat.le_of_ble_eq_true rfl) ?_
    refine ct_X2_isFull_7 hs7 ?_
    show V_ _ _ _ _ _ _ [_] _
    refine V_if_eq (tgt := 26) (pc := 18) dX6_loss_18 (by decide) b2_rg (fun h18 => ?_) (fun h18 => ?_)
    · skip
      rw [b2_0] at h18
      have e : nx_loss a y s = ((q : Int) + 1, ap_ a y s) := by unfold nx_loss; rw [if_neg (fun z => z h5), if_neg (by omega), hq]
      refine V_aload_n (pc := 26) dX6_loss_26 rfl rfl ?_
      refine V_getr (pc := 27) dX6_loss_27 fX6_35 rfl gg_0 rfl ?_
      refine V_iload_n (pc := 30) dX6_loss_30 rfl rfl ?_
      refine V_iload_n (pc := 31) dX6_loss_31 rfl rfl ?_
      refine V_callV (pc := 32) (as := [_, _]) (rest := []) dX6_loss_32 ⟨kX6_145, iX2_append, by decide, by decide⟩ rc_7 rfl rfl (Nat.le_of_ble_eq_true rfl) (Nat.le_of_ble_eq_true rfl) ?_
      refine ct_X2_append_7 hy hs hs7 (by omega) ?_
      show V_ _ _ _ _ _ _ [_] _
      refine V_ireturn (pc := 35) dX6_loss_35 rfl rfl (fun hR => ?_)
      first
        | (have h2 := hK σ (by rw [e]; exact h) Fm_.rf; rw [e] at h2; exact h2)
        | (have h2 := hK _ (by rw [e]; exact h.app h5.1 h5.2 hq (by omega)) (((Fm_.rf.ms (by decide)).ms (by decide)).ms (by decide)); rw [e] at h2; exact h2)
    · skip
      rw [b2_n0] at h18
      have e : nx_loss a y s = (-4, a) := by unfold nx_loss; rw [if_neg (fun z => z h5), if_pos (by omega)]
      refine V_bipush (pc := 21) dX6_loss_21 (by decide) ?_
      refine V_goto (tgt := 35) (pc := 23) dX6_loss_23 (by decide) ?_
      refine V_ireturn (pc := 35) dX6_loss_35 rfl rfl (fun hR => ?_)
      first
        | (have h2 := hK σ (by rw [e]; exact h) Fm_.rf; rw [e] at h2; exact h2)
        | (have h2 := hK _ (by rw [e]; exact h.app h5.1 h5.2 hq (by omega)) (((Fm_.rf.ms (by decide)).ms (by decide)).ms (by decide)); rw [e] at h2; exact h2)
  · skip
    rw [b2_0] at h5
    have e : nx_loss a y s = (-2, a) := if_pos h5
    refine V_bipush (pc := 8) dX6_loss_8 (by decide) ?_
    refine V_ireturn (pc := 10) dX6_loss_10 rfl rfl (fun hR => ?_)
    have h2 := hK σ (by rw [e]; exact h) Fm_.rf
    rw [e] at h2
    exact h2
theorem ct_X6_back (h : CR_ a σ) (hK : ∀ σ1, CR_ (nx_back a).2 σ1 → Fm_ σ σ1 → post (some (vi_ (nx_back a).1)) σ1) : V_ l D mX6_back (CM_ D mX6_back post) 0 [some (vr_ 0)] [] σ := by
  have hA := h.1.1
  have hW := vv_WF hA
  have hC := h.2.1
  have hD := h.2.2
  have ws := hW.s
  have wn := hW.n
  have wl := hW.l
  have hL := h.1.2.2.2.1
  have hLW := hA.2.2.2.1
  have hl1 : 0 ≤ a 5 0 ∧ a 5 0 ≤ 12 := hLW.1
  have hs7 : σ 7 2 = a 5 0 := hL.1
  refine V_aload_n (pc := 0) dX6_back_0 rfl rfl ?_
  refine V_getr (pc := 1) dX6_back_1 fX6_35 rfl gg_0 rfl ?_
  refine V_geti (pc := 4) dX6_back_4 fX6_148 rfl gg_7 rfl (fun r4 => ?_)
  rw [hs7] at r4 ⊢
  refine V_if_ne (tgt := 13) (pc := 7) dX6_back_7 (by decide) (by first | assumption | decide | omega | exact ba_rg hR | exact b2_rg) (fun h7 => ?_) (fun h7 => ?_)
  · skip
    have e : nx_back a = (a 5 0 - 1, ms_ a 5 0 (a 5 0 - 1)) := if_neg h7
    refine V_aload_n (pc := 13) dX6_back_13 rfl rfl ?_
    refine V_getr (pc := 14) dX6_back_14 fX6_35 rfl gg_0 rfl ?_
    refine V_dup (pc := 17) dX6_back_17 rfl ?_
    refine V_geti (pc := 18) dX6_back_18 fX6_148 rfl gg_7 rfl (fun r18 => ?_)
    rw [hs7] at r18 ⊢
    refine V_iconst (pc := 21) dX6_back_21 ?_
    refine V_isub (pc := 22) dX6_back_22 ?_
    refine V_puti (pc := 23) dX6_back_23 fX6_148 rfl gg_7 rfl pq_2_2 rfl rfl (by constructor <;> omega) ?_
    refine V_aload_n (pc := 26) dX6_back_26 rfl rfl ?_
    refine V_getr (pc := 27) dX6_back_27 fX6_35 rfl gg_0 rfl ?_
    refine V_geti (pc := 30) dX6_back_30 fX6_148 rfl gg_7 rfl (fun r30 => ?_)
    rw [ms_eq] at r30 ⊢
    refine V_ireturn (pc := 33) dX6_back_33 rfl rfl (fun hR => ?_)
    have ew : ww_ (ms_ a 5 0 (a 5 0 - 1)) = ww_ a := ww_cg (ms_rw (by decide)) (ms_rw (by decide)) (ms_rw (by decide))
    have e0 : uu_ (ms_ a 5 0 (a 5 0 - 1)) 0 0 = a 5 0 - 1 := ms_eq
    have e1 : ∀ i, uu_ (ms_ a 5 0 (a 5 0 - 1)) 1 i = uu_ a 1 i := fun i => by show ms_ a 5 0 (a 5 0 - 1) 6 i = a 6 i; rw [ms_nk (by decide)]
    have e2 : ∀ i, uu_ (ms_ a 5 0 (a 5 0 - 1)) 2 i = uu_ a 2 i := fun i => by show ms_ a 5 0 (a 5 0 - 1) 7 i = a 7 i; rw [ms_nk (by decide)]
    have hu0 : uu_ a 0 0 = a 5 0 := rfl
    have hcr : CR_ (ms_ a 5 0 (a 5 0 - 1)) (ms_ σ 7 2 (a 5 0 - 1)) := h.tell ⟨⟨by rw [e0]; omega, fun i hi => by rw [e1, e2]; rw [e0] at hi; exact hLW.2 i (by omega)⟩, by rw [ew]; exact hA.2.2.2.2.1, hA.2.2.2.2.2.2.2.ms (by constructor <;> omega)⟩ (fun k a1 _ _ _ _ _ => ms_rw a1) (fun k hk => ms_rw (by omega)) ⟨by rw [e0, ms_eq], fun i hi => by rw [e1, e2, ms_nk (by decide), ms_nk (by decide)]; rw [e0] at hi; exact hL.2 i (by omega)⟩ (by rw [ew]; have hW := h.1.2.2.2.2.1; unfold WC_ at hW ⊢; simp only [ms_rw, ne_eq, Nat.reduceEqDiff, not_false_eq_true]; exact hW)
    have h2 := hK _ (by rw [e]; exact hcr) (Fm_.rf.ms (by decide))
    rw [e] at h2
    exact h2
  · skip
    have e : nx_back a = (-3, a) := if_pos h7
    refine V_bipush (pc := 10) dX6_back_10 (by decide) ?_
    refine V_ireturn (pc := 12) dX6_back_12 rfl rfl (fun hR => ?_)
    have h2 := hK σ (by rw [e]; exact h) Fm_.rf
    rw [e] at h2
    exact h2
theorem seen_CR (h : CR_ a σ) {s p : Int} (hs : 0 ≤ s ∧ s ≤ 5) (hp : 0 ≤ p ∧ p ≤ 999) {q : Nat} (hq : a 8 0 = (q : Int)) (hqc : q < 8) : CR_ (ms_ (ms_ (ms_ a 9 q s) 10 q p) 8 0 ((q : Int) + 1)) (ms_ (ms_ (ms_ σ 33 q s) 34 q p) 32 2 ((q : Int) + 1)) := by
  have hA := h.1.1
  have hL := h.1.2.2.2.2.1
  have hLW := hA.2.2.2.2.1
  have hU := h.1.2.2.2.1
  have ew : uu_ (ms_ (ms_ (ms_ a 9 q s) 10 q p) 8 0 ((q : Int) + 1)) = uu_ a := uu_cg (by rw [ms_rw (by decide), ms_rw (by decide), ms_rw (by decide)]) (by rw [ms_rw (by decide), ms_rw (by decide), ms_rw (by decide)]) (by rw [ms_rw (by decide), ms_rw (by decide), ms_rw (by decide)])
  have e0 : ww_ (ms_ (ms_ (ms_ a 9 q s) 10 q p) 8 0 ((q : Int) + 1)) 0 0 = (q : Int) + 1 := ms_eq
  have e1 : ∀ i, ww_ (ms_ (ms_ (ms_ a 9 q s) 10 q p) 8 0 ((q : Int) + 1)) 1 i = if i = q then s else ww_ a 1 i := fun i => by show ms_ (ms_ (ms_ a 9 q s) 10 q p) 8 0 ((q : Int) + 1) 9 i = if i = q then s else a 9 i; simp [ms_]
  have e2 : ∀ i, ww_ (ms_ (ms_ (ms_ a 9 q s) 10 q p) 8 0 ((q : Int) + 1)) 2 i = if i = q then p else ww_ a 2 i := fun i => by show ms_ (ms_ (ms_ a 9 q s) 10 q p) 8 0 ((q : Int) + 1) 10 i = if i = q then p else a 10 i; simp [ms_]
  have hu0 : ww_ a 0 0 = (q : Int) := hq
  refine h.tell ⟨by rw [ew]; exact hA.2.2.2.1, ⟨by rw [e0]; omega, fun i hi => ?_⟩, ((hA.2.2.2.2.2.2.2.ms (by constructor <;> omega)).ms (by constructor <;> omega)).ms (by constructor <;> omega)⟩ (fun k _ _ _ a1 a2 a3 => by rw [ms_rw (by omega), ms_rw (by omega), ms_rw (by omega)]) (fun k hk => by rw [ms_rw (by omega), ms_rw (by omega), ms_rw (by omega)]) ?_ ⟨by rw [e0, ms_eq], fun i hi => ?_⟩
  · rw [e0] at hi
    rw [e1, e2]
    by_cases c : i = q
    · rw [if_pos c, if_pos c]; exact ⟨hs, hp⟩
    · rw [if_neg c, if_neg c]; exact hLW.2 i (by omega)
  · rw [ew]
    unfold LC_ at hU ⊢
    simp only [ms_rw, ne_eq, Nat.reduceEqDiff, not_false_eq_true]
    exact hU
  · rw [e0] at hi
    rw [e1, e2]
    by_cases c : i = q
    · rw [if_pos c, if_pos c, c]; simp [ms_]
    · have := hL.2 i (by omega)
      rw [if_neg c, if_neg c]
      simp [ms_, c]; exact this
theorem ct_X6_seen {s p : Int} (hs : Rg_ s) (hp : Rg_ p) (h : CR_ a σ) (hK : ∀ σ1, CR_ (nx_seen a s p).2 σ1 → Fm_ σ σ1 → post (some (vi_ (nx_seen a s p).1)) σ1) : V_ l D mX6_seen (CM_ D mX6_seen post) 0 [some (vr_ 0), some (vi_ s), some (vi_ p)] [] σ := by
  have hA := h.1.1
  have hW := vv_WF hA
  have hC := h.2.1
  have hD := h.2.2
  have ws := hW.s
  have wn := hW.n
  have wl := hW.l
  have hL := h.1.2.2.2.2.1
  have hLW := hA.2.2.2.2.1
  obtain ⟨q, hq⟩ := i_nat (show 0 ≤ a 8 0 from hLW.1.1)
  have hq2 : a 8 0 ≤ 8 := hLW.1.2
  have hs7 : σ 32 2 = (q : Int) := hL.1.trans hq
  refine V_iload_n (pc := 0) dX6_seen_0 rfl rfl ?_
  refine V_iconst (pc := 1) dX6_seen_1 ?_
  refine V_callS (pc := 2) (as := [_, _]) (rest := []) dX6_seen_2 ⟨kX6_78, sX6_isWithin, by decide, by decide⟩ rfl rfl (Nat.le_of_ble_eq_true rfl) (Nat.le_of_ble_eq_true rfl) ?_
  refine ct_X6_isWithin (by first | assumption | decide | omega | exact ba_rg hR | exact b2_rg) (by first | assumption | decide | omega | exact ba_rg hR | exact b2_rg) ?_
  show V_ _ _ _ _ _ _ [_] _
  refine V_if_eq (tgt := 18) (pc := 5) dX6_seen_5 (by decide) (by first | assumption | decide | omega | exact ba_rg hR | exact b2_rg) (fun h5 => ?_) (fun h5 => ?_)
  · skip
    rw [b2_0] at h5
    have e : nx_seen a s p = (-2, a) := if_pos (fun z => h5 z.1)
    refine V_bipush (pc := 18) dX6_seen_18 (by decide) ?_
    refine V_ireturn (pc := 20) dX6_seen_20 rfl rfl (fun hR => ?_)
    have h2 := hK σ (by rw [e]; exact h) Fm_.rf
    rw [e] at h2
    exact h2
  · skip
    rw [b2_n0] at h5
    refine V_iload_n (pc := 8) dX6_seen_8 rfl rfl ?_
    refine V_sipush (pc := 9) dX6_seen_9 (by decide) ?_
    refine V_callS (pc := 12) (as := [_, _]) (rest := []) dX6_seen_12 ⟨kX6_78, sX6_isWithin, by decide, by decide⟩ rfl rfl (Nat.le_of_ble_eq_true rfl) (Nat.le_of_ble_eq_true rfl) ?_
    refine ct_X6_isWithin (by first | assumption | decide | omega | exact ba_rg hR | exact b2_rg) (by first | assumption | decide | omega | exact ba_rg hR | exact b2_rg) ?_
    show V_ _ _ _ _ _ _ [_] _
    refine V_if_ne (tgt := 21) (pc := 15) dX6_seen_15 (by decide) (by first | assumption | decide | omega | exact ba_rg hR | exact b2_rg) (fun h15 => ?_) (fun h15 => ?_)
    · skip
      rw [b2_n0] at h15
      refine V_aload_n (pc := 21) dX6_seen_21 rfl rfl ?_
      refine V_getr (pc := 22) dX6_seen_22 fX6_61 rfl gg_0 rfl ?_
      refine V_callV (pc := 25) (as := []) (rest := []) dX6_seen_25 ⟨kX6_144, iX2_isFull, by decide, by decide⟩ rc_32 rfl rfl (Nat.le_of_ble_eq_true rfl) (Nat.le_of_ble_eq_true rfl) ?_
      refine ct_X2_isFull_32 hs7 ?_
      show V_ _ _ _ _ _ _ [_] _
      refine V_if_eq (tgt := 36) (pc := 28) dX6_seen_28 (by decide) b2_rg (fun h28 => ?_) (fun h28 => ?_)
      · skip
        rw [b2_0] at h28
        have e : nx_seen a s p = ((q : Int) + 1, ms_ (ms_ (ms_ a 9 q s) 10 q p) 8 0 ((q : Int) + 1)) := by unfold nx_seen; rw [if_neg (fun z => z ⟨h5, h15⟩), if_neg (by omega), hq]; rfl
        refine V_aload_n (pc := 36) dX6_seen_36 rfl rfl ?_
        refine V_getr (pc := 37) dX6_seen_37 fX6_61 rfl gg_0 rfl ?_
        refine V_iload_n (pc := 40) dX6_seen_40 rfl rfl ?_
        refine V_iload_n (pc := 41) dX6_seen_41 rfl rfl ?_
        refine V_callV (pc := 42) (as := [_, _]) (rest := []) dX6_seen_42 ⟨kX6_145, iX2_append, by decide, by decide⟩ rc_32 rfl rfl (Nat.le_of_ble_eq_true rfl) (Nat.le_of_ble_eq_true rfl) ?_
        refine ct_X2_append_32 hs hp hs7 (by omega) ?_
        show V_ _ _ _ _ _ _ [_] _
        refine V_ireturn (pc := 45) dX6_seen_45 rfl rfl (fun hR => ?_)
        first
          | (have h2 := hK σ (by rw [e]; exact h) Fm_.rf; rw [e] at h2; exact h2)
          | (have h2 := hK _ (by rw [e]; exact seen_CR h h5 h15 hq (by omega)) (((Fm_.rf.ms (by decide)).ms (by decide)).ms (by decide)); rw [e] at h2; exact h2)
      · skip
        rw [b2_n0] at h28
        have e : nx_seen a s p = (-4, a) := by unfold nx_seen; rw [if_neg (fun z => z ⟨h5, h15⟩), if_pos (by omega)]
        refine V_bipush (pc := 31) dX6_seen_31 (by decide) ?_
        refine V_goto (tgt := 45) (pc := 33) dX6_seen_33 (by decide) ?_
        refine V_ireturn (pc := 45) dX6_seen_45 rfl rfl (fun hR => ?_)
        first
          | (have h2 := hK σ (by rw [e]; exact h) Fm_.rf; rw [e] at h2; exact h2)
          | (have h2 := hK _ (by rw [e]; exact seen_CR h h5 h15 hq (by omega)) (((Fm_.rf.ms (by decide)).ms (by decide)).ms (by decide)); rw [e] at h2; exact h2)
    · skip
      rw [b2_0] at h15
      have e : nx_seen a s p = (-2, a) := if_pos (fun z => h15 z.2)
      refine V_bipush (pc := 18) dX6_seen_18 (by decide) ?_
      refine V_ireturn (pc := 20) dX6_seen_20 rfl rfl (fun hR => ?_)
      have h2 := hK σ (by rw [e]; exact h) Fm_.rf
      rw [e] at h2
      exact h2
theorem ct_X6_forget (h : CR_ a σ) (hK : ∀ σ1, CR_ (nx_forget a).2 σ1 → Fm_ σ σ1 → post (some (vi_ (nx_forget a).1)) σ1) : V_ l D mX6_forget (CM_ D mX6_forget post) 0 [some (vr_ 0), none] [] σ := by
  have hA := h.1.1
  have hW := vv_WF hA
  have hC := h.2.1
  have hD := h.2.2
  have ws := hW.s
  have wn := hW.n
  have wl := hW.l
  refine V_aload_n (pc := 0) dX6_forget_0 rfl rfl ?_
  refine V_getr (pc := 1) dX6_forget_1 fX6_61 rfl gg_0 rfl ?_
  refine V_geti (pc := 4) dX6_forget_4 fX6_148 rfl gg_32 rfl (fun r4 => ?_)
  rw [show σ 32 2 = a 8 0 from h.1.2.2.2.2.1.1] at r4 ⊢
  refine V_istore_n (pc := 7) dX6_forget_7 rfl (by decide) rfl ?_
  show V_ _ _ _ _ _ [_, _] _ _
  refine V_aload_n (pc := 8) dX6_forget_8 rfl rfl ?_
  refine V_getr (pc := 9) dX6_forget_9 fX6_61 rfl gg_0 rfl ?_
  refine V_iconst (pc := 12) dX6_forget_12 ?_
  refine V_puti (pc := 13) dX6_forget_13 fX6_148 rfl gg_32 rfl pq_2_2 rfl rfl (by first | assumption | decide | omega | exact ba_rg hR | exact b2_rg) ?_
  refine V_iload_n (pc := 16) dX6_forget_16 rfl rfl ?_
  refine V_ireturn (pc := 17) dX6_forget_17 rfl rfl (fun hR => ?_)
  have ew : uu_ (ms_ a 8 0 0) = uu_ a := uu_cg (ms_rw (by decide)) (ms_rw (by decide)) (ms_rw (by decide))
  have e0 : ww_ (ms_ a 8 0 0) 0 0 = 0 := ms_eq
  have hcr : CR_ (ms_ a 8 0 0) (ms_ σ 32 2 0) := h.tell ⟨by rw [ew]; exact hA.2.2.2.1, ⟨by rw [e0]; decide, fun i hi => by rw [e0] at hi; omega⟩, hA.2.2.2.2.2.2.2.ms (by decide)⟩ (fun k _ _ _ a1 _ _ => ms_rw a1) (fun k hk => ms_rw (by omega)) (by rw [ew]; have hW := h.1.2.2.2.1; unfold LC_ at hW ⊢; simp only [ms_rw, ne_eq, Nat.reduceEqDiff, not_false_eq_true]; exact hW) ⟨by rw [e0, ms_eq], fun i hi => by rw [e0] at hi; omega⟩
  exact hK _ hcr (Fm_.rf.ms (by decide))
theorem ct_X6_bearer {k w : Int} (hk : Rg_ k) (hw : Rg_ w) (h : CR_ a σ) (hK : ∀ σ1, CR_ a σ1 → Fm_ σ σ1 → post (some (vi_ (an_bearer a k w))) σ1) : V_ l D mX6_bearer (CM_ D mX6_bearer post) 0 [some (vr_ 0), some (vi_ k), some (vi_ w)] [] σ := by
  have hA := h.1.1
  have hW := vv_WF hA
  have hC := h.2.1
  have hD := h.2.2
  have ws := hW.s
  have wn := hW.n
  have wl := hW.l
  by_cases c0 : w = 0
  · subst c0
    refine V_aload_n (pc := 0) dX6_bearer_0 rfl rfl ?_
    refine V_getr (pc := 1) dX6_bearer_1 fX6_53 rfl gg_0 rfl ?_
    refine V_iload_n (pc := 4) dX6_bearer_4 rfl rfl ?_
    refine V_callV (pc := 5) (as := [_]) (rest := []) dX6_bearer_5 ⟨kX6_111, iX1_hasName, by decide, by decide⟩ rc_19 rfl rfl (Nat.le_of_ble_eq_true rfl) (Nat.le_of_ble_eq_true rfl) ?_
    refine ct_X1_hasName (by first | assumption | decide | omega | exact ba_rg hR | exact b2_rg) hC.2.1 ?_
    show V_ _ _ _ _ _ _ [_] _
    refine V_if_ne (tgt := 14) (pc := 8) dX6_bearer_8 (by decide) (by first | assumption | decide | omega | exact ba_rg hR | exact b2_rg) (fun h8 => ?_) (fun h8 => ?_)
    · skip
      rw [b2_n0] at h8
      refine V_iload_n (pc := 14) dX6_bearer_14 rfl rfl ?_
      refine V_tableIn (tgt := 40) (off := 25) (pc := 15) dX6_bearer_15 (by decide) (by decide) (by decide) (by decide) (by decide) ?_
      refine V_aload_n (pc := 40) dX6_bearer_40 rfl rfl ?_
      refine V_getr (pc := 41) dX6_bearer_41 fX6_53 rfl gg_0 rfl ?_
      refine V_getr (pc := 44) dX6_bearer_44 fX6_167 rfl gg_19 rfl ?_
      refine V_iload_n (pc := 47) dX6_bearer_47 rfl rfl ?_
      refine V_iald (pc := 48) dX6_bearer_48 gg_27 (by omega) (by decide) (fun r48 => ?_)
      rw [show σ 27 k.toNat = bb_ (vv_ a) k from by rw [hD.1 k.toNat (by omega), show ((k.toNat : Nat) : Int) = k by omega]] at r48 ⊢
      refine V_ireturn (pc := 49) dX6_bearer_49 rfl rfl (fun hR => ?_)
      exact rt_ (by unfold an_bearer; first | rfl | ((repeat' split) <;> first | rfl | (exfalso; omega))) (hK σ h (Fm_.rf))
    · skip
      rw [b2_0] at h8
      refine V_bipush (pc := 11) dX6_bearer_11 (by decide) ?_
      refine V_ireturn (pc := 13) dX6_bearer_13 rfl rfl (fun hR => ?_)
      exact rt_ (by unfold an_bearer; first | rfl | ((repeat' split) <;> first | rfl | (exfalso; omega))) (hK σ h (Fm_.rf))
  by_cases c1 : w = 1
  · subst c1
    refine V_aload_n (pc := 0) dX6_bearer_0 rfl rfl ?_
    refine V_getr (pc := 1) dX6_bearer_1 fX6_53 rfl gg_0 rfl ?_
    refine V_iload_n (pc := 4) dX6_bearer_4 rfl rfl ?_
    refine V_callV (pc := 5) (as := [_]) (rest := []) dX6_bearer_5 ⟨kX6_111, iX1_hasName, by decide, by decide⟩ rc_19 rfl rfl (Nat.le_of_ble_eq_true rfl) (Nat.le_of_ble_eq_true rfl) ?_
    refine ct_X1_hasName (by first | assumption | decide | omega | exact ba_rg hR | exact b2_rg) hC.2.1 ?_
    show V_ _ _ _ _ _ _ [_] _
    refine V_if_ne (tgt := 14) (pc := 8) dX6_bearer_8 (by decide) (by first | assumption | decide | omega | exact ba_rg hR | exact b2_rg) (fun h8 => ?_) (fun h8 => ?_)
    · skip
      rw [b2_n0] at h8
      refine V_iload_n (pc := 14) dX6_bearer_14 rfl rfl ?_
      refine V_tableIn (tgt := 50) (off := 35) (pc := 15) dX6_bearer_15 (by decide) (by decide) (by decide) (by decide) (by decide) ?_
      refine V_aload_n (pc := 50) dX6_bearer_50 rfl rfl ?_
      refine V_getr (pc := 51) dX6_bearer_51 fX6_53 rfl gg_0 rfl ?_
      refine V_iload_n (pc := 54) dX6_bearer_54 rfl rfl ?_
      refine V_callV (pc := 55) (as := [_]) (rest := []) dX6_bearer_55 ⟨kX6_170, iX1_namesBorneBy, by decide, by decide⟩ rc_19 rfl rfl (Nat.le_of_ble_eq_true rfl) (Nat.le_of_ble_eq_true rfl) ?_
      refine ct_X1_namesBorneBy hW hC hD hk ?_
      show V_ _ _ _ _ _ _ [_] _
      refine V_ireturn (pc := 58) dX6_bearer_58 rfl rfl (fun hR => ?_)
      exact rt_ (by unfold an_bearer; first | rfl | ((repeat' split) <;> first | rfl | (exfalso; omega))) (hK σ h (Fm_.rf))
    · skip
      rw [b2_0] at h8
      refine V_bipush (pc := 11) dX6_bearer_11 (by decide) ?_
      refine V_ireturn (pc := 13) dX6_bearer_13 rfl rfl (fun hR => ?_)
      exact rt_ (by unfold an_bearer; first | rfl | ((repeat' split) <;> first | rfl | (exfalso; omega))) (hK σ h (Fm_.rf))
  by_cases c2 : w = 2
  · subst c2
    refine V_aload_n (pc := 0) dX6_bearer_0 rfl rfl ?_
    refine V_getr (pc := 1) dX6_bearer_1 fX6_53 rfl gg_0 rfl ?_
    refine V_iload_n (pc := 4) dX6_bearer_4 rfl rfl ?_
    refine V_callV (pc := 5) (as := [_]) (rest := []) dX6_bearer_5 ⟨kX6_111, iX1_hasName, by decide, by decide⟩ rc_19 rfl rfl (Nat.le_of_ble_eq_true rfl) (Nat.le_of_ble_eq_true rfl) ?_
    refine ct_X1_hasName (by first | assumption | decide | omega | exact ba_rg hR | exact b2_rg) hC.2.1 ?_
    show V_ _ _ _ _ _ _ [_] _
    refine V_if_ne (tgt := 14) (pc := 8) dX6_bearer_8 (by decide) (by first | assumption | decide | omega | exact ba_rg hR | exact b2_rg) (fun h8 => ?_) (fun h8 => ?_)
    · skip
      rw [b2_n0] at h8
      refine V_iload_n (pc := 14) dX6_bearer_14 rfl rfl ?_
      refine V_tableIn (tgt := 59) (off := 44) (pc := 15) dX6_bearer_15 (by decide) (by decide) (by decide) (by decide) (by decide) ?_
      refine V_aload_n (pc := 59) dX6_bearer_59 rfl rfl ?_
      refine V_getr (pc := 60) dX6_bearer_60 fX6_53 rfl gg_0 rfl ?_
      refine V_getr (pc := 63) dX6_bearer_63 fX6_167 rfl gg_19 rfl ?_
      refine V_iload_n (pc := 66) dX6_bearer_66 rfl rfl ?_
      refine V_iald (pc := 67) dX6_bearer_67 gg_27 (by omega) (by decide) (fun r67 => ?_)
      rw [show σ 27 k.toNat = bb_ (vv_ a) k from by rw [hD.1 k.toNat (by omega), show ((k.toNat : Nat) : Int) = k by omega]] at r67 ⊢
      refine V_iconst (pc := 68) dX6_bearer_68 ?_
      refine V_icmp_ne (tgt := 76) (pc := 69) dX6_bearer_69 (by decide) (by first | assumption | decide | omega | exact ba_rg hR | exact b2_rg) (by first | assumption | decide | omega | exact ba_rg hR | exact b2_rg) (fun h69 => ?_) (fun h69 => ?_)
      · skip
        refine V_iconst (pc := 76) dX6_bearer_76 ?_
        refine V_ireturn (pc := 77) dX6_bearer_77 rfl rfl (fun hR => ?_)
        exact rt_ (by unfold an_bearer; first | rfl | ((repeat' split) <;> first | rfl | (exfalso; omega))) (hK σ h (Fm_.rf))
      · skip
        refine V_iconst (pc := 72) dX6_bearer_72 ?_
        refine V_goto (tgt := 77) (pc := 73) dX6_bearer_73 (by decide) ?_
        refine V_ireturn (pc := 77) dX6_bearer_77 rfl rfl (fun hR => ?_)
        exact rt_ (by unfold an_bearer; first | rfl | ((repeat' split) <;> first | rfl | (exfalso; omega))) (hK σ h (Fm_.rf))
    · skip
      rw [b2_0] at h8
      refine V_bipush (pc := 11) dX6_bearer_11 (by decide) ?_
      refine V_ireturn (pc := 13) dX6_bearer_13 rfl rfl (fun hR => ?_)
      exact rt_ (by unfold an_bearer; first | rfl | ((repeat' split) <;> first | rfl | (exfalso; omega))) (hK σ h (Fm_.rf))
  refine V_aload_n (pc := 0) dX6_bearer_0 rfl rfl ?_
  refine V_getr (pc := 1) dX6_bearer_1 fX6_53 rfl gg_0 rfl ?_
  refine V_iload_n (pc := 4) dX6_bearer_4 rfl rfl ?_
  refine V_callV (pc := 5) (as := [_]) (rest := []) dX6_bearer_5 ⟨kX6_111, iX1_hasName, by decide, by decide⟩ rc_19 rfl rfl (Nat.le_of_ble_eq_true rfl) (Nat.le_of_ble_eq_true rfl) ?_
  refine ct_X1_hasName (by first | assumption | decide | omega | exact ba_rg hR | exact b2_rg) hC.2.1 ?_
  show V_ _ _ _ _ _ _ [_] _
  refine V_if_ne (tgt := 14) (pc := 8) dX6_bearer_8 (by decide) (by first | assumption | decide | omega | exact ba_rg hR | exact b2_rg) (fun h8 => ?_) (fun h8 => ?_)
  · skip
    rw [b2_n0] at h8
    refine V_iload_n (pc := 14) dX6_bearer_14 rfl rfl ?_
    refine V_tableOut (tgt := 78) (pc := 15) dX6_bearer_15 (by first | assumption | decide | omega | exact ba_rg hR | exact b2_rg) (by omega) (by decide) ?_
    refine V_bipush (pc := 78) dX6_bearer_78 (by decide) ?_
    refine V_ireturn (pc := 80) dX6_bearer_80 rfl rfl (fun hR => ?_)
    exact rt_ (by unfold an_bearer; first | rfl | ((repeat' split) <;> first | rfl | (exfalso; omega))) (hK σ h (Fm_.rf))
  · skip
    rw [b2_0] at h8
    refine V_bipush (pc := 11) dX6_bearer_11 (by decide) ?_
    refine V_ireturn (pc := 13) dX6_bearer_13 rfl rfl (fun hR => ?_)
    exact rt_ (by unfold an_bearer; first | rfl | ((repeat' split) <;> first | rfl | (exfalso; omega))) (hK σ h (Fm_.rf))
theorem ct_X6_borne {s k : Int} (hs : Rg_ s) (hk : Rg_ k) (h : CR_ a σ) (hK : ∀ σ1, CR_ a σ1 → Fm_ σ σ1 → post (some (vi_ (an_borne a s k))) σ1) : V_ l D mX6_borne (CM_ D mX6_borne post) 0 [some (vr_ 0), some (vi_ s), some (vi_ k)] [] σ := by
  have hA := h.1.1
  have hW := vv_WF hA
  have hC := h.2.1
  have hD := h.2.2
  have ws := hW.s
  have wn := hW.n
  have wl := hW.l
  refine V_aload_n (pc := 0) dX6_borne_0 rfl rfl ?_
  refine V_getr (pc := 1) dX6_borne_1 fX6_53 rfl gg_0 rfl ?_
  refine V_iload_n (pc := 4) dX6_borne_4 rfl rfl ?_
  refine V_callV (pc := 5) (as := [_]) (rest := []) dX6_borne_5 ⟨kX6_100, iX1_hasShip, by decide, by decide⟩ rc_19 rfl rfl (Nat.le_of_ble_eq_true rfl) (Nat.le_of_ble_eq_true rfl) ?_
  refine ct_X1_hasShip (by first | assumption | decide | omega | exact ba_rg hR | exact b2_rg) hC.1 ?_
  show V_ _ _ _ _ _ _ [_] _
  refine V_if_eq (tgt := 34) (pc := 8) dX6_borne_8 (by decide) (by first | assumption | decide | omega | exact ba_rg hR | exact b2_rg) (fun h8 => ?_) (fun h8 => ?_)
  · skip
    rw [b2_0] at h8
    refine V_bipush (pc := 34) dX6_borne_34 (by decide) ?_
    refine V_ireturn (pc := 36) dX6_borne_36 rfl rfl (fun hR => ?_)
    exact rt_ (by unfold an_borne; first | rfl | ((repeat' split) <;> first | rfl | (exfalso; omega))) (hK σ h (Fm_.rf))
  · skip
    rw [b2_n0] at h8
    refine V_aload_n (pc := 11) dX6_borne_11 rfl rfl ?_
    refine V_getr (pc := 12) dX6_borne_12 fX6_53 rfl gg_0 rfl ?_
    refine V_iload_n (pc := 15) dX6_borne_15 rfl rfl ?_
    refine V_callV (pc := 16) (as := [_]) (rest := []) dX6_borne_16 ⟨kX6_111, iX1_hasName, by decide, by decide⟩ rc_19 rfl rfl (Nat.le_of_ble_eq_true rfl) (Nat.le_of_ble_eq_true rfl) ?_
    refine ct_X1_hasName (by first | assumption | decide | omega | exact ba_rg hR | exact b2_rg) hC.2.1 ?_
    show V_ _ _ _ _ _ _ [_] _
    refine V_if_eq (tgt := 34) (pc := 19) dX6_borne_19 (by decide) (by first | assumption | decide | omega | exact ba_rg hR | exact b2_rg) (fun h19 => ?_) (fun h19 => ?_)
    · skip
      rw [b2_0] at h19
      refine V_bipush (pc := 34) dX6_borne_34 (by decide) ?_
      refine V_ireturn (pc := 36) dX6_borne_36 rfl rfl (fun hR => ?_)
      exact rt_ (by unfold an_borne; first | rfl | ((repeat' split) <;> first | rfl | (exfalso; omega))) (hK σ h (Fm_.rf))
    · skip
      rw [b2_n0] at h19
      refine V_aload_n (pc := 22) dX6_borne_22 rfl rfl ?_
      refine V_getr (pc := 23) dX6_borne_23 fX6_53 rfl gg_0 rfl ?_
      refine V_iload_n (pc := 26) dX6_borne_26 rfl rfl ?_
      refine V_iload_n (pc := 27) dX6_borne_27 rfl rfl ?_
      refine V_callV (pc := 28) (as := [_, _]) (rest := []) dX6_borne_28 ⟨kX6_173, iX1_dueOf, by decide, by decide⟩ rc_19 rfl rfl (Nat.le_of_ble_eq_true rfl) (Nat.le_of_ble_eq_true rfl) ?_
      refine ct_X1_dueOf hW hC hD hs hk ?_
      show V_ _ _ _ _ _ _ [_] _
      refine V_goto (tgt := 36) (pc := 31) dX6_borne_31 (by decide) ?_
      refine V_ireturn (pc := 36) dX6_borne_36 rfl rfl (fun hR => ?_)
      exact rt_ (by unfold an_borne; first | rfl | ((repeat' split) <;> first | rfl | (exfalso; omega))) (hK σ h (Fm_.rf))
theorem ct_X6_unborne {s : Int} (hs : Rg_ s) (h : CR_ a σ) (hK : ∀ σ1, CR_ a σ1 → Fm_ σ σ1 → post (some (vi_ (an_unborne a s))) σ1) : V_ l D mX6_unborne (CM_ D mX6_unborne post) 0 [some (vr_ 0), some (vi_ s)] [] σ := by
  have hA := h.1.1
  have hW := vv_WF hA
  have hC := h.2.1
  have hD := h.2.2
  have ws := hW.s
  have wn := hW.n
  have wl := hW.l
  refine V_aload_n (pc := 0) dX6_unborne_0 rfl rfl ?_
  refine V_getr (pc := 1) dX6_unborne_1 fX6_53 rfl gg_0 rfl ?_
  refine V_iload_n (pc := 4) dX6_unborne_4 rfl rfl ?_
  refine V_callV (pc := 5) (as := [_]) (rest := []) dX6_unborne_5 ⟨kX6_100, iX1_hasShip, by decide, by decide⟩ rc_19 rfl rfl (Nat.le_of_ble_eq_true rfl) (Nat.le_of_ble_eq_true rfl) ?_
  refine ct_X1_hasShip (by first | assumption | decide | omega | exact ba_rg hR | exact b2_rg) hC.1 ?_
  show V_ _ _ _ _ _ _ [_] _
  refine V_if_eq (tgt := 23) (pc := 8) dX6_unborne_8 (by decide) (by first | assumption | decide | omega | exact ba_rg hR | exact b2_rg) (fun h8 => ?_) (fun h8 => ?_)
  · skip
    rw [b2_0] at h8
    refine V_bipush (pc := 23) dX6_unborne_23 (by decide) ?_
    refine V_ireturn (pc := 25) dX6_unborne_25 rfl rfl (fun hR => ?_)
    exact rt_ (by unfold an_unborne; first | rfl | ((repeat' split) <;> first | rfl | (exfalso; omega))) (hK σ h (Fm_.rf))
  · skip
    rw [b2_n0] at h8
    refine V_aload_n (pc := 11) dX6_unborne_11 rfl rfl ?_
    refine V_getr (pc := 12) dX6_unborne_12 fX6_53 rfl gg_0 rfl ?_
    refine V_iload_n (pc := 15) dX6_unborne_15 rfl rfl ?_
    refine V_iconst (pc := 16) dX6_unborne_16 ?_
    refine V_callV (pc := 17) (as := [_, _]) (rest := []) dX6_unborne_17 ⟨kX6_173, iX1_dueOf, by decide, by decide⟩ rc_19 rfl rfl (Nat.le_of_ble_eq_true rfl) (Nat.le_of_ble_eq_true rfl) ?_
    refine ct_X1_dueOf hW hC hD hs (by decide) ?_
    show V_ _ _ _ _ _ _ [_] _
    refine V_goto (tgt := 25) (pc := 20) dX6_unborne_20 (by decide) ?_
    refine V_ireturn (pc := 25) dX6_unborne_25 rfl rfl (fun hR => ?_)
    exact rt_ (by unfold an_unborne; first | rfl | ((repeat' split) <;> first | rfl | (exfalso; omega))) (hK σ h (Fm_.rf))
theorem ct_X6_left {y k : Int} (hy : Rg_ y) (hk : Rg_ k) (h : CR_ a σ) (hK : ∀ σ1, CR_ a σ1 → Fm_ σ σ1 → post (some (vi_ (an_left a y k))) σ1) : V_ l D mX6_left (CM_ D mX6_left post) 0 [some (vr_ 0), some (vi_ y), some (vi_ k)] [] σ := by
  have hA := h.1.1
  have hW := vv_WF hA
  have hC := h.2.1
  have hD := h.2.2
  have ws := hW.s
  have wn := hW.n
  have wl := hW.l
  refine V_iload_n (pc := 0) dX6_left_0 rfl rfl ?_
  refine V_callS (pc := 1) (as := [_]) (rest := []) dX6_left_1 ⟨kX6_176, sX6_isYear, by decide, by decide⟩ rfl rfl (Nat.le_of_ble_eq_true rfl) (Nat.le_of_ble_eq_true rfl) ?_
  refine ct_X6_isYear (by first | assumption | decide | omega | exact ba_rg hR | exact b2_rg) ?_
  show V_ _ _ _ _ _ _ [_] _
  refine V_if_eq (tgt := 18) (pc := 4) dX6_left_4 (by decide) (by first | assumption | decide | omega | exact ba_rg hR | exact b2_rg) (fun h4 => ?_) (fun h4 => ?_)
  · skip
    rw [b2_0] at h4
    refine V_bipush (pc := 18) dX6_left_18 (by decide) ?_
    refine V_ireturn (pc := 20) dX6_left_20 rfl rfl (fun hR => ?_)
    exact rt_ (by unfold an_left; first | rfl | ((repeat' split) <;> first | rfl | (exfalso; omega))) (hK σ h (Fm_.rf))
  · skip
    rw [b2_n0] at h4
    refine V_aload_n (pc := 7) dX6_left_7 rfl rfl ?_
    refine V_getr (pc := 8) dX6_left_8 fX6_53 rfl gg_0 rfl ?_
    refine V_iload_n (pc := 11) dX6_left_11 rfl rfl ?_
    refine V_callV (pc := 12) (as := [_]) (rest := []) dX6_left_12 ⟨kX6_111, iX1_hasName, by decide, by decide⟩ rc_19 rfl rfl (Nat.le_of_ble_eq_true rfl) (Nat.le_of_ble_eq_true rfl) ?_
    refine ct_X1_hasName (by first | assumption | decide | omega | exact ba_rg hR | exact b2_rg) hC.2.1 ?_
    show V_ _ _ _ _ _ _ [_] _
    refine V_if_ne (tgt := 21) (pc := 15) dX6_left_15 (by decide) (by first | assumption | decide | omega | exact ba_rg hR | exact b2_rg) (fun h15 => ?_) (fun h15 => ?_)
    · skip
      rw [b2_n0] at h15
      refine V_aload_n (pc := 21) dX6_left_21 rfl rfl ?_
      refine V_getr (pc := 22) dX6_left_22 fX6_57 rfl gg_0 rfl ?_
      refine V_aload_n (pc := 25) dX6_left_25 rfl rfl ?_
      refine V_getr (pc := 26) dX6_left_26 fX6_35 rfl gg_0 rfl ?_
      refine V_iload_n (pc := 29) dX6_left_29 rfl rfl ?_
      refine V_callV (pc := 30) (as := [_, _]) (rest := []) dX6_left_30 ⟨kX6_179, iX3_followTold, by decide, by decide⟩ rc_29 rfl rfl (Nat.le_of_ble_eq_true rfl) (Nat.le_of_ble_eq_true rfl) ?_
      obtain ⟨Y, hY⟩ := i_nat (show 0 ≤ y by omega)
      subst hY
      refine ct_X3_followTold hW hA.2.2.2.1 (Y := Y) (by omega) hC hD h.1.2.2.2.1 (fun σ1 hB1 hB2 => ?_)
      have hc1 := h.f6 hB2.f6
      have hf1 := hB2.f6.fm
      have hB1 : RC_ (vv_ a) (lv2_ a (Y : Int)) σ1 := hB1
      show V_ _ _ _ _ _ _ [] _
      refine V_aload_n (pc := 33) dX6_left_33 rfl rfl ?_
      refine V_getr (pc := 34) dX6_left_34 fX6_57 rfl gg_0 rfl ?_
      refine V_getr (pc := 37) dX6_left_37 fX6_183 rfl gg_29 rfl ?_
      refine V_iload_n (pc := 40) dX6_left_40 rfl rfl ?_
      refine V_iald (pc := 41) dX6_left_41 gg_30 (by omega) (by decide) (fun r41 => ?_)
      rw [hB1.1 k.toNat (by omega)] at r41 ⊢
      refine V_ireturn (pc := 42) dX6_left_42 rfl rfl (fun hR => ?_)
      exact rt_ (by unfold an_left; first | rfl | ((repeat' split) <;> first | rfl | (exfalso; omega))) (hK _ hc1 (hf1))
    · skip
      rw [b2_0] at h15
      refine V_bipush (pc := 18) dX6_left_18 (by decide) ?_
      refine V_ireturn (pc := 20) dX6_left_20 rfl rfl (fun hR => ?_)
      exact rt_ (by unfold an_left; first | rfl | ((repeat' split) <;> first | rfl | (exfalso; omega))) (hK σ h (Fm_.rf))
theorem ct_X6_behind {y w : Int} (hy : Rg_ y) (hw : Rg_ w) (h : CR_ a σ) (hK : ∀ σ1, CR_ a σ1 → Fm_ σ σ1 → post (some (vi_ (an_behind a y w))) σ1) : V_ l D mX6_behind (CM_ D mX6_behind post) 0 [some (vr_ 0), some (vi_ y), some (vi_ w)] [] σ := by
  have hA := h.1.1
  have hW := vv_WF hA
  have hC := h.2.1
  have hD := h.2.2
  have ws := hW.s
  have wn := hW.n
  have wl := hW.l
  refine V_iload_n (pc := 0) dX6_behind_0 rfl rfl ?_
  refine V_callS (pc := 1) (as := [_]) (rest := []) dX6_behind_1 ⟨kX6_176, sX6_isYear, by decide, by decide⟩ rfl rfl (Nat.le_of_ble_eq_true rfl) (Nat.le_of_ble_eq_true rfl) ?_
  refine ct_X6_isYear (by first | assumption | decide | omega | exact ba_rg hR | exact b2_rg) ?_
  show V_ _ _ _ _ _ _ [_] _
  refine V_if_eq (tgt := 15) (pc := 4) dX6_behind_4 (by decide) (by first | assumption | decide | omega | exact ba_rg hR | exact b2_rg) (fun h4 => ?_) (fun h4 => ?_)
  · skip
    rw [b2_0] at h4
    refine V_bipush (pc := 15) dX6_behind_15 (by decide) ?_
    refine V_ireturn (pc := 17) dX6_behind_17 rfl rfl (fun hR => ?_)
    exact rt_ (by unfold an_behind; first | rfl | ((repeat' split) <;> first | rfl | (exfalso; omega))) (hK σ h (Fm_.rf))
  · skip
    rw [b2_n0] at h4
    refine V_iload_n (pc := 7) dX6_behind_7 rfl rfl ?_
    refine V_iconst (pc := 8) dX6_behind_8 ?_
    refine V_callS (pc := 9) (as := [_, _]) (rest := []) dX6_behind_9 ⟨kX6_78, sX6_isWithin, by decide, by decide⟩ rfl rfl (Nat.le_of_ble_eq_true rfl) (Nat.le_of_ble_eq_true rfl) ?_
    refine ct_X6_isWithin (by first | assumption | decide | omega | exact ba_rg hR | exact b2_rg) (by first | assumption | decide | omega | exact ba_rg hR | exact b2_rg) ?_
    show V_ _ _ _ _ _ _ [_] _
    refine V_if_ne (tgt := 18) (pc := 12) dX6_behind_12 (by decide) (by first | assumption | decide | omega | exact ba_rg hR | exact b2_rg) (fun h12 => ?_) (fun h12 => ?_)
    · skip
      rw [b2_n0] at h12
      refine V_aload_n (pc := 18) dX6_behind_18 rfl rfl ?_
      refine V_getr (pc := 19) dX6_behind_19 fX6_57 rfl gg_0 rfl ?_
      refine V_aload_n (pc := 22) dX6_behind_22 rfl rfl ?_
      refine V_getr (pc := 23) dX6_behind_23 fX6_35 rfl gg_0 rfl ?_
      refine V_iload_n (pc := 26) dX6_behind_26 rfl rfl ?_
      refine V_callV (pc := 27) (as := [_, _]) (rest := []) dX6_behind_27 ⟨kX6_179, iX3_followTold, by decide, by decide⟩ rc_29 rfl rfl (Nat.le_of_ble_eq_true rfl) (Nat.le_of_ble_eq_true rfl) ?_
      obtain ⟨Y, hY⟩ := i_nat (show 0 ≤ y by omega)
      subst hY
      refine ct_X3_followTold hW hA.2.2.2.1 (Y := Y) (by omega) hC hD h.1.2.2.2.1 (fun σ1 hB1 hB2 => ?_)
      have hc1 := h.f6 hB2.f6
      have hf1 := hB2.f6.fm
      have hB1 : RC_ (vv_ a) (lv2_ a (Y : Int)) σ1 := hB1
      show V_ _ _ _ _ _ _ [] _
      refine V_iload_n (pc := 30) dX6_behind_30 rfl rfl ?_
      refine V_if_ne (tgt := 44) (pc := 31) dX6_behind_31 (by decide) (by first | assumption | decide | omega | exact ba_rg hR | exact b2_rg) (fun h31 => ?_) (fun h31 => ?_)
      · skip
        refine V_aload_n (pc := 44) dX6_behind_44 rfl rfl ?_
        refine V_getr (pc := 45) dX6_behind_45 fX6_57 rfl gg_0 rfl ?_
        refine V_geti (pc := 48) dX6_behind_48 fX6_189 rfl gg_29 rfl (fun r48 => ?_)
        rw [hB1.2.2.1] at r48 ⊢
        refine V_ireturn (pc := 51) dX6_behind_51 rfl rfl (fun hR => ?_)
        exact rt_ (by unfold an_behind; first | rfl | ((repeat' split) <;> first | rfl | (exfalso; omega))) (hK _ hc1 (hf1))
      · skip
        refine V_aload_n (pc := 34) dX6_behind_34 rfl rfl ?_
        refine V_getr (pc := 35) dX6_behind_35 fX6_57 rfl gg_0 rfl ?_
        refine V_geti (pc := 38) dX6_behind_38 fX6_186 rfl gg_29 rfl (fun r38 => ?_)
        rw [hB1.2.2.2.1] at r38 ⊢
        refine V_goto (tgt := 51) (pc := 41) dX6_behind_41 (by decide) ?_
        refine V_ireturn (pc := 51) dX6_behind_51 rfl rfl (fun hR => ?_)
        exact rt_ (by unfold an_behind; first | rfl | ((repeat' split) <;> first | rfl | (exfalso; omega))) (hK _ hc1 (hf1))
    · skip
      rw [b2_0] at h12
      refine V_bipush (pc := 15) dX6_behind_15 (by decide) ?_
      refine V_ireturn (pc := 17) dX6_behind_17 rfl rfl (fun hR => ?_)
      exact rt_ (by unfold an_behind; first | rfl | ((repeat' split) <;> first | rfl | (exfalso; omega))) (hK σ h (Fm_.rf))
theorem ct_X6_paid {y s : Int} (hy : Rg_ y) (hs : Rg_ s) (h : CR_ a σ) (hK : ∀ σ1, CR_ a σ1 → Fm_ σ σ1 → post (some (vi_ (an_paid a y s))) σ1) : V_ l D mX6_paid (CM_ D mX6_paid post) 0 [some (vr_ 0), some (vi_ y), some (vi_ s)] [] σ := by
  have hA := h.1.1
  have hW := vv_WF hA
  have hC := h.2.1
  have hD := h.2.2
  have ws := hW.s
  have wn := hW.n
  have wl := hW.l
  refine V_iload_n (pc := 0) dX6_paid_0 rfl rfl ?_
  refine V_callS (pc := 1) (as := [_]) (rest := []) dX6_paid_1 ⟨kX6_176, sX6_isYear, by decide, by decide⟩ rfl rfl (Nat.le_of_ble_eq_true rfl) (Nat.le_of_ble_eq_true rfl) ?_
  refine ct_X6_isYear (by first | assumption | decide | omega | exact ba_rg hR | exact b2_rg) ?_
  show V_ _ _ _ _ _ _ [_] _
  refine V_if_eq (tgt := 18) (pc := 4) dX6_paid_4 (by decide) (by first | assumption | decide | omega | exact ba_rg hR | exact b2_rg) (fun h4 => ?_) (fun h4 => ?_)
  · skip
    rw [b2_0] at h4
    refine V_bipush (pc := 18) dX6_paid_18 (by decide) ?_
    refine V_ireturn (pc := 20) dX6_paid_20 rfl rfl (fun hR => ?_)
    exact rt_ (by unfold an_paid; first | rfl | ((repeat' split) <;> first | rfl | (exfalso; omega))) (hK σ h (Fm_.rf))
  · skip
    rw [b2_n0] at h4
    refine V_aload_n (pc := 7) dX6_paid_7 rfl rfl ?_
    refine V_getr (pc := 8) dX6_paid_8 fX6_53 rfl gg_0 rfl ?_
    refine V_iload_n (pc := 11) dX6_paid_11 rfl rfl ?_
    refine V_callV (pc := 12) (as := [_]) (rest := []) dX6_paid_12 ⟨kX6_100, iX1_hasShip, by decide, by decide⟩ rc_19 rfl rfl (Nat.le_of_ble_eq_true rfl) (Nat.le_of_ble_eq_true rfl) ?_
    refine ct_X1_hasShip (by first | assumption | decide | omega | exact ba_rg hR | exact b2_rg) hC.1 ?_
    show V_ _ _ _ _ _ _ [_] _
    refine V_if_ne (tgt := 21) (pc := 15) dX6_paid_15 (by decide) (by first | assumption | decide | omega | exact ba_rg hR | exact b2_rg) (fun h15 => ?_) (fun h15 => ?_)
    · skip
      rw [b2_n0] at h15
      refine V_aload_n (pc := 21) dX6_paid_21 rfl rfl ?_
      refine V_getr (pc := 22) dX6_paid_22 fX6_57 rfl gg_0 rfl ?_
      refine V_aload_n (pc := 25) dX6_paid_25 rfl rfl ?_
      refine V_getr (pc := 26) dX6_paid_26 fX6_35 rfl gg_0 rfl ?_
      refine V_iload_n (pc := 29) dX6_paid_29 rfl rfl ?_
      refine V_callV (pc := 30) (as := [_, _]) (rest := []) dX6_paid_30 ⟨kX6_179, iX3_followTold, by decide, by decide⟩ rc_29 rfl rfl (Nat.le_of_ble_eq_true rfl) (Nat.le_of_ble_eq_true rfl) ?_
      obtain ⟨Y, hY⟩ := i_nat (show 0 ≤ y by omega)
      subst hY
      refine ct_X3_followTold hW hA.2.2.2.1 (Y := Y) (by omega) hC hD h.1.2.2.2.1 (fun σ1 hB1 hB2 => ?_)
      have hc1 := h.f6 hB2.f6
      have hf1 := hB2.f6.fm
      have hB1 : RC_ (vv_ a) (lv2_ a (Y : Int)) σ1 := hB1
      show V_ _ _ _ _ _ _ [] _
      refine V_aload_n (pc := 33) dX6_paid_33 rfl rfl ?_
      refine V_getr (pc := 34) dX6_paid_34 fX6_57 rfl gg_0 rfl ?_
      refine V_getr (pc := 37) dX6_paid_37 fX6_191 rfl gg_29 rfl ?_
      refine V_iload_n (pc := 40) dX6_paid_40 rfl rfl ?_
      refine V_iald (pc := 41) dX6_paid_41 gg_31 (by omega) (by decide) (fun r41 => ?_)
      rw [hB1.2.1 s.toNat (by omega)] at r41 ⊢
      refine V_ireturn (pc := 42) dX6_paid_42 rfl rfl (fun hR => ?_)
      exact rt_ (by unfold an_paid; first | rfl | ((repeat' split) <;> first | rfl | (exfalso; omega))) (hK _ hc1 (hf1))
    · skip
      rw [b2_0] at h15
      refine V_bipush (pc := 18) dX6_paid_18 (by decide) ?_
      refine V_ireturn (pc := 20) dX6_paid_20 rfl rfl (fun hR => ?_)
      exact rt_ (by unfold an_paid; first | rfl | ((repeat' split) <;> first | rfl | (exfalso; omega))) (hK σ h (Fm_.rf))
theorem ct_X6_first {w : Int} (hw : Rg_ w) (h : CR_ a σ) (hK : ∀ σ1, CR_ a σ1 → Fm_ σ σ1 → post (some (vi_ (an_first a w))) σ1) : V_ l D mX6_first (CM_ D mX6_first post) 0 [some (vr_ 0), some (vi_ w)] [] σ := by
  have hA := h.1.1
  have hW := vv_WF hA
  have hC := h.2.1
  have hD := h.2.2
  have ws := hW.s
  have wn := hW.n
  have wl := hW.l
  refine V_iload_n (pc := 0) dX6_first_0 rfl rfl ?_
  refine V_iconst (pc := 1) dX6_first_1 ?_
  refine V_callS (pc := 2) (as := [_, _]) (rest := []) dX6_first_2 ⟨kX6_78, sX6_isWithin, by decide, by decide⟩ rfl rfl (Nat.le_of_ble_eq_true rfl) (Nat.le_of_ble_eq_true rfl) ?_
  refine ct_X6_isWithin (by first | assumption | decide | omega | exact ba_rg hR | exact b2_rg) (by first | assumption | decide | omega | exact ba_rg hR | exact b2_rg) ?_
  show V_ _ _ _ _ _ _ [_] _
  refine V_if_ne (tgt := 11) (pc := 5) dX6_first_5 (by decide) (by first | assumption | decide | omega | exact ba_rg hR | exact b2_rg) (fun h5 => ?_) (fun h5 => ?_)
  · skip
    rw [b2_n0] at h5
    refine V_aload_n (pc := 11) dX6_first_11 rfl rfl ?_
    refine V_getr (pc := 12) dX6_first_12 fX6_57 rfl gg_0 rfl ?_
    refine V_aload_n (pc := 15) dX6_first_15 rfl rfl ?_
    refine V_getr (pc := 16) dX6_first_16 fX6_35 rfl gg_0 rfl ?_
    refine V_bipush (pc := 19) dX6_first_19 (by decide) ?_
    refine V_callV (pc := 21) (as := [_, _]) (rest := []) dX6_first_21 ⟨kX6_179, iX3_followTold, by decide, by decide⟩ rc_29 rfl rfl (Nat.le_of_ble_eq_true rfl) (Nat.le_of_ble_eq_true rfl) ?_
    refine ct_X3_followTold hW hA.2.2.2.1 (Y := 29) (by decide) hC hD h.1.2.2.2.1 (fun σ1 hB1 hB2 => ?_)
    have hc1 := h.f6 hB2.f6
    have hf1 := hB2.f6.fm
    have hB1 : RC_ (vv_ a) (lv2_ a 29) σ1 := hB1
    show V_ _ _ _ _ _ _ [] _
    refine V_iload_n (pc := 24) dX6_first_24 rfl rfl ?_
    refine V_if_ne (tgt := 38) (pc := 25) dX6_first_25 (by decide) (by first | assumption | decide | omega | exact ba_rg hR | exact b2_rg) (fun h25 => ?_) (fun h25 => ?_)
    · skip
      refine V_aload_n (pc := 38) dX6_first_38 rfl rfl ?_
      refine V_getr (pc := 39) dX6_first_39 fX6_57 rfl gg_0 rfl ?_
      refine V_geti (pc := 42) dX6_first_42 fX6_197 rfl gg_29 rfl (fun r42 => ?_)
      rw [hB1.2.2.2.2.2] at r42 ⊢
      refine V_ireturn (pc := 45) dX6_first_45 rfl rfl (fun hR => ?_)
      exact rt_ (by unfold an_first; first | rfl | ((repeat' split) <;> first | rfl | (exfalso; omega))) (hK _ hc1 (hf1))
    · skip
      refine V_aload_n (pc := 28) dX6_first_28 rfl rfl ?_
      refine V_getr (pc := 29) dX6_first_29 fX6_57 rfl gg_0 rfl ?_
      refine V_geti (pc := 32) dX6_first_32 fX6_194 rfl gg_29 rfl (fun r32 => ?_)
      rw [hB1.2.2.2.2.1] at r32 ⊢
      refine V_goto (tgt := 45) (pc := 35) dX6_first_35 (by decide) ?_
      refine V_ireturn (pc := 45) dX6_first_45 rfl rfl (fun hR => ?_)
      exact rt_ (by unfold an_first; first | rfl | ((repeat' split) <;> first | rfl | (exfalso; omega))) (hK _ hc1 (hf1))
  · skip
    rw [b2_0] at h5
    refine V_bipush (pc := 8) dX6_first_8 (by decide) ?_
    refine V_ireturn (pc := 10) dX6_first_10 rfl rfl (fun hR => ?_)
    exact rt_ (by unfold an_first; first | rfl | ((repeat' split) <;> first | rfl | (exfalso; omega))) (hK σ h (Fm_.rf))
end
