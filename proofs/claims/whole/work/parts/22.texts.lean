/-! ## class DrownedNames: helpers; texts -/
theorem vv_cg {a a' : Mm_} (h0 : a' 0 = a 0) (h1 : a' 1 = a 1) (h2 : a' 2 = a 2) (h3 : a' 3 = a 3) (h4 : a' 4 = a 4) : vv_ a' = vv_ a := by
  unfold vv_
  rw [h0, h1, h2, h3, h4]
theorem uu_cg {a a' : Mm_} (h5 : a' 5 = a 5) (h6 : a' 6 = a 6) (h7 : a' 7 = a 7) : uu_ a' = uu_ a := by
  unfold uu_
  rw [h5, h6, h7]
theorem ww_cg {a a' : Mm_} (h8 : a' 8 = a 8) (h9 : a' 9 = a 9) (h10 : a' 10 = a 10) : ww_ a' = ww_ a := by
  unfold ww_
  rw [h8, h9, h10]
theorem ms_rr {σ a : Mm_} {k k' j : Nat} {x : Int} (h : σ k = a k') : ms_ σ k j x k = ms_ a k' j x k' := by
  funext b
  unfold ms_
  by_cases c : b = j
  · simp [c]
  · simp [c]; exact congrFun h b
theorem S1_.ca {a a' σ : Mm_} {s k : Nat} (h : S1_ a σ s k) (e1 : a' 11 = a 11) (e2 : a' 12 = a 12) (e3 : a' (13 + s) = a (13 + s)) : S1_ a' σ s k := by
  unfold S1_ at h ⊢
  rw [e1, e2, e3]
  exact h
theorem SR_.cg {a a' σ σ' : Mm_} (h : SR_ a σ) (e : ∀ k, 11 ≤ k → k ≤ 18 → σ' k = σ k) (ea : ∀ k, 11 ≤ k → k ≤ 16 → a' k = a k) : SR_ a' σ' :=
  ⟨(h.1.cg (e _ (by decide) (by decide)) (e _ (by decide) (by decide))).ca (ea _ (by decide) (by decide)) (ea _ (by decide) (by decide)) (ea _ (by decide) (by decide)),
   (h.2.1.cg (e _ (by decide) (by decide)) (e _ (by decide) (by decide))).ca (ea _ (by decide) (by decide)) (ea _ (by decide) (by decide)) (ea _ (by decide) (by decide)),
   (h.2.2.1.cg (e _ (by decide) (by decide)) (e _ (by decide) (by decide))).ca (ea _ (by decide) (by decide)) (ea _ (by decide) (by decide)) (ea _ (by decide) (by decide)),
   (h.2.2.2.cg (e _ (by decide) (by decide)) (e _ (by decide) (by decide))).ca (ea _ (by decide) (by decide)) (ea _ (by decide) (by decide)) (ea _ (by decide) (by decide))⟩
/-- a change of texts and struck ones alone -/
theorem CP_.text {a a' σ σ' : Mm_} (h : CP_ a σ) (hA : AW_ a') (e : ∀ k, 7 ≤ k → σ' k = σ k) (ea : ∀ k, 5 ≤ k → a' k = a k) (hT : TR_ a' σ') (hs : σ' 0 9 = a' 4 0 ∧ σ' 0 10 = σ 0 10) : CP_ a' σ' := by
  obtain ⟨h1, h2, h3, h4, h5, h6⟩ := h
  refine ⟨hA, hT, ⟨hs.1, by rw [hs.2, ea 17 (by decide)]; exact h3.2⟩, ?_, ?_, ?_⟩
  · rw [uu_cg (ea _ (by decide)) (ea _ (by decide)) (ea _ (by decide))]
    unfold LC_ at h4 ⊢
    rw [e 7 (by decide), e 8 (by decide), e 9 (by decide)]; exact h4
  · rw [ww_cg (ea _ (by decide)) (ea _ (by decide)) (ea _ (by decide))]
    unfold WC_ at h5 ⊢
    rw [e 32 (by decide), e 33 (by decide), e 34 (by decide)]; exact h5
  · exact h6.cg (fun k h1 _ => e k (by omega)) (fun k h1 _ => ea k (by omega))
theorem AW_.text {a a' : Mm_} (h : AW_ a) (ea : ∀ k, 5 ≤ k → a' k = a k) (h0 : (0 ≤ a' 0 0 ∧ a' 0 0 ≤ 23) ∧ (0 ≤ a' 0 1 ∧ a' 0 1 ≤ 39) ∧ (0 ≤ a' 0 2 ∧ a' 0 2 ≤ 59)) (hb : (∀ j, 0 ≤ a' 1 j ∧ a' 1 j ≤ 255) ∧ (∀ j, 0 ≤ a' 2 j ∧ a' 2 j ≤ 255) ∧ (∀ j, 0 ≤ a' 3 j ∧ a' 3 j ≤ 255)) (h4 : 0 ≤ a' 4 0 ∧ a' 4 0 ≤ 255) (hR : RM_ a') : AW_ a' := by
  obtain ⟨_, _, _, q5, q6, q7, q8, _⟩ := h
  refine ⟨h0, hb, h4, ?_, ?_, ?_, ?_, hR⟩
  · rw [uu_cg (ea _ (by decide)) (ea _ (by decide)) (ea _ (by decide))]; exact q5
  · rw [ww_cg (ea _ (by decide)) (ea _ (by decide)) (ea _ (by decide))]; exact q6
  · rw [ea 11 (by decide), ea 12 (by decide)]; exact q7
  · rw [ea 17 (by decide)]; exact q8
theorem ms_255 {a : Mm_} {k k' j : Nat} {x : Int} (h : ∀ i, 0 ≤ a k i ∧ a k i ≤ 255) (hx : 0 ≤ x ∧ x ≤ 255) : ∀ i, 0 ≤ ms_ a k' j x k i ∧ ms_ a k' j x k i ≤ 255 := by
  intro i
  unfold ms_
  split
  · exact hx
  · exact h i
theorem CR_.found {a σ : Mm_} {f : Int} (h : CR_ a σ) (hf : 0 ≤ f ∧ f ≤ 5) : CR_ (ms_ a 17 0 f) (ms_ σ 0 10 f) := by
  obtain ⟨⟨h1, h2, h3, h4, h5, h6⟩, h7, h8⟩ := h
  have ea : ∀ k, k ≠ 17 → ms_ a 17 0 f k = a k := fun k hk => ms_rw hk
  have e : ∀ k, k ≠ 0 → ms_ σ 0 10 f k = σ k := fun k hk => ms_rw hk
  have ev : vv_ (ms_ a 17 0 f) = vv_ a := vv_cg (ea _ (by decide)) (ea _ (by decide)) (ea _ (by decide)) (ea _ (by decide)) (ea _ (by decide))
  have eu : uu_ (ms_ a 17 0 f) = uu_ a := uu_cg (ea _ (by decide)) (ea _ (by decide)) (ea _ (by decide))
  have ew : ww_ (ms_ a 17 0 f) = ww_ a := ww_cg (ea _ (by decide)) (ea _ (by decide)) (ea _ (by decide))
  refine ⟨⟨?_, ?_, ⟨?_, ?_⟩, ?_, ?_, ?_⟩, ?_, ?_⟩
  · obtain ⟨q0, q1, q4, q5, q6, q7, q8, q9⟩ := h1
    refine ⟨?_, ?_, ?_, by rw [eu]; exact q5, by rw [ew]; exact q6, ?_, ?_, q9.ms (by constructor <;> omega)⟩
    · rw [ea _ (by decide)]; exact q0
    · rw [ea _ (by decide), ea _ (by decide), ea _ (by decide)]; exact q1
    · rw [ea _ (by decide)]; exact q4
    · rw [ea _ (by decide), ea _ (by decide)]; exact q7
    · rw [ms_eq]; exact hf
  · unfold TR_ at h2 ⊢
    rw [ea _ (by decide), ea _ (by decide), ea _ (by decide), ea _ (by decide), e _ (by decide), e _ (by decide), e _ (by decide), e _ (by decide), e _ (by decide), e _ (by decide)]; exact h2
  · rw [ms_ne (by decide), ea _ (by decide)]; exact h3.1
  · rw [ms_eq, ms_eq]
  · rw [eu]; unfold LC_ at h4 ⊢; rw [e _ (by decide), e _ (by decide), e _ (by decide)]; exact h4
  · rw [ew]; unfold WC_ at h5 ⊢; rw [e _ (by decide), e _ (by decide), e _ (by decide)]; exact h5
  · exact h6.cg (fun k h1 _ => e k (by omega)) (fun k h1 h2 => ea k (by omega))
  · rw [ev]; exact h7.cg (fun a b h1 h2 => by rw [e _ (by omega)])
  · rw [ev]; exact h8.cg (fun a b h1 h2 => by rw [e _ (by omega)])
def cap_ (t : Nat) : Int := if t = 0 then 23 else if t = 1 then 39 else 59
def nx_type (a : Mm_) (t b : Int) : Int × Mm_ := if ¬ (0 ≤ t ∧ t ≤ 2) ∨ ¬ (0 ≤ b ∧ b ≤ 255) then (-2, a) else if cap_ t.toNat ≤ a 0 t.toNat then (-4, a) else (a 0 t.toNat + 1, ms_ (ms_ a (1 + t.toNat) (a 0 t.toNat).toNat b) 0 t.toNat (a 0 t.toNat + 1))
def nx_wipe (a : Mm_) (t : Int) : Int × Mm_ := if ¬ (0 ≤ t ∧ t ≤ 2) then (-2, a) else (a 0 t.toNat, ms_ a 0 t.toNat 0)
def nx_undo (a : Mm_) (t : Int) : Int × Mm_ := if ¬ (0 ≤ t ∧ t ≤ 2) then (-2, a) else if a 0 t.toNat = 0 then (-3, a) else (a 0 t.toNat - 1, ms_ a 0 t.toNat (a 0 t.toNat - 1))
def an_fault (a : Mm_) (t : Int) : Int := if ¬ (0 ≤ t ∧ t ≤ 2) then -2 else fa_ t.toNat (a 0 t.toNat) (a (1 + t.toNat))
section
variable {l : Launch} {D : Dt_} {a σ : Mm_} {post : Option Av_ → Mm_ → Prop}
theorem ct_X6_isWithin {x m : Int} (hx : Rg_ x) (hm : Rg_ m) (h : post (some (vi_ (b2_ (0 ≤ x ∧ x ≤ m)))) σ) : V_ l D mX6_isWithin (CM_ D mX6_isWithin post) 0 [some (vi_ x), some (vi_ m)] [] σ := by
  refine V_iload_n (pc := 0) dX6_isWithin_0 rfl rfl ?_
  refine V_if_lt (tgt := 13) (pc := 1) dX6_isWithin_1 (by decide) (by first | assumption | decide | omega | exact ba_rg hR | exact b2_rg) (fun h1 => ?_) (fun h1 => ?_)
  · skip
    refine V_iconst (pc := 13) dX6_isWithin_13 ?_
    refine V_ireturn (pc := 14) dX6_isWithin_14 rfl rfl (fun hR => ?_)
    first | (rw [b2_t (by omega)] at h; exact h) | (rw [b2_f (by omega)] at h; exact h)
  · skip
    refine V_iload_n (pc := 4) dX6_isWithin_4 rfl rfl ?_
    refine V_iload_n (pc := 5) dX6_isWithin_5 rfl rfl ?_
    refine V_icmp_gt (tgt := 13) (pc := 6) dX6_isWithin_6 (by decide) (by first | assumption | decide | omega | exact ba_rg hR | exact b2_rg) (by first | assumption | decide | omega | exact ba_rg hR | exact b2_rg) (fun h6 => ?_) (fun h6 => ?_)
    · skip
      refine V_iconst (pc := 13) dX6_isWithin_13 ?_
      refine V_ireturn (pc := 14) dX6_isWithin_14 rfl rfl (fun hR => ?_)
      first | (rw [b2_t (by omega)] at h; exact h) | (rw [b2_f (by omega)] at h; exact h)
    · skip
      refine V_iconst (pc := 9) dX6_isWithin_9 ?_
      refine V_goto (tgt := 14) (pc := 10) dX6_isWithin_10 (by decide) ?_
      refine V_ireturn (pc := 14) dX6_isWithin_14 rfl rfl (fun hR => ?_)
      first | (rw [b2_t (by omega)] at h; exact h) | (rw [b2_f (by omega)] at h; exact h)
theorem ct_X6_isYear {x : Int} (hx : Rg_ x) (h : post (some (vi_ (b2_ (0 ≤ x ∧ x ≤ 29)))) σ) : V_ l D mX6_isYear (CM_ D mX6_isYear post) 0 [some (vi_ x)] [] σ := by
  refine V_iload_n (pc := 0) dX6_isYear_0 rfl rfl ?_
  refine V_bipush (pc := 1) dX6_isYear_1 (by decide) ?_
  refine V_callS (pc := 3) (as := [_, _]) (rest := []) dX6_isYear_3 ⟨kX6_78, sX6_isWithin, by decide, by decide⟩ rfl rfl (Nat.le_of_ble_eq_true rfl) (Nat.le_of_ble_eq_true rfl) ?_
  refine ct_X6_isWithin (by first | assumption | decide | omega | exact ba_rg hR | exact b2_rg) (by first | assumption | decide | omega | exact ba_rg hR | exact b2_rg) ?_
  show V_ _ _ _ _ _ _ [_] _
  refine V_ireturn (pc := 6) dX6_isYear_6 rfl b2_nar (fun hR => ?_)
  exact h
theorem ct_X6_isForm {x : Int} (hx : Rg_ x) (h : post (some (vi_ (b2_ (0 ≤ x ∧ x ≤ 2)))) σ) : V_ l D mX6_isForm (CM_ D mX6_isForm post) 0 [some (vi_ x)] [] σ := by
  refine V_iload_n (pc := 0) dX6_isForm_0 rfl rfl ?_
  refine V_iconst (pc := 1) dX6_isForm_1 ?_
  refine V_callS (pc := 2) (as := [_, _]) (rest := []) dX6_isForm_2 ⟨kX6_78, sX6_isWithin, by decide, by decide⟩ rfl rfl (Nat.le_of_ble_eq_true rfl) (Nat.le_of_ble_eq_true rfl) ?_
  refine ct_X6_isWithin (by first | assumption | decide | omega | exact ba_rg hR | exact b2_rg) (by first | assumption | decide | omega | exact ba_rg hR | exact b2_rg) ?_
  show V_ _ _ _ _ _ _ [_] _
  refine V_ireturn (pc := 5) dX6_isForm_5 rfl b2_nar (fun hR => ?_)
  exact h
theorem ct_X6_isLoss {x z : Int} (hx : Rg_ x) (hz : Rg_ z) (h : post (some (vi_ (b2_ ((0 ≤ x ∧ x ≤ 29) ∧ (0 ≤ z ∧ z ≤ 5))))) σ) : V_ l D mX6_isLoss (CM_ D mX6_isLoss post) 0 [some (vi_ x), some (vi_ z)] [] σ := by
  refine V_iload_n (pc := 0) dX6_isLoss_0 rfl rfl ?_
  refine V_callS (pc := 1) (as := [_]) (rest := []) dX6_isLoss_1 ⟨kX6_176, sX6_isYear, by decide, by decide⟩ rfl rfl (Nat.le_of_ble_eq_true rfl) (Nat.le_of_ble_eq_true rfl) ?_
  refine ct_X6_isYear (by first | assumption | decide | omega | exact ba_rg hR | exact b2_rg) ?_
  show V_ _ _ _ _ _ _ [_] _
  refine V_if_eq (tgt := 19) (pc := 4) dX6_isLoss_4 (by decide) (by first | assumption | decide | omega | exact ba_rg hR | exact b2_rg) (fun h4 => ?_) (fun h4 => ?_)
  · skip
    rw [b2_0] at h4
    refine V_iconst (pc := 19) dX6_isLoss_19 ?_
    refine V_ireturn (pc := 20) dX6_isLoss_20 rfl rfl (fun hR => ?_)
    first | (rw [b2_t (by omega)] at h; exact h) | (rw [b2_f (by omega)] at h; exact h)
  · skip
    rw [b2_n0] at h4
    refine V_iload_n (pc := 7) dX6_isLoss_7 rfl rfl ?_
    refine V_iconst (pc := 8) dX6_isLoss_8 ?_
    refine V_callS (pc := 9) (as := [_, _]) (rest := []) dX6_isLoss_9 ⟨kX6_78, sX6_isWithin, by decide, by decide⟩ rfl rfl (Nat.le_of_ble_eq_true rfl) (Nat.le_of_ble_eq_true rfl) ?_
    refine ct_X6_isWithin (by first | assumption | decide | omega | exact ba_rg hR | exact b2_rg) (by first | assumption | decide | omega | exact ba_rg hR | exact b2_rg) ?_
    show V_ _ _ _ _ _ _ [_] _
    refine V_if_eq (tgt := 19) (pc := 12) dX6_isLoss_12 (by decide) (by first | assumption | decide | omega | exact ba_rg hR | exact b2_rg) (fun h12 => ?_) (fun h12 => ?_)
    · skip
      rw [b2_0] at h12
      refine V_iconst (pc := 19) dX6_isLoss_19 ?_
      refine V_ireturn (pc := 20) dX6_isLoss_20 rfl rfl (fun hR => ?_)
      first | (rw [b2_t (by omega)] at h; exact h) | (rw [b2_f (by omega)] at h; exact h)
    · skip
      rw [b2_n0] at h12
      refine V_iconst (pc := 15) dX6_isLoss_15 ?_
      refine V_goto (tgt := 20) (pc := 16) dX6_isLoss_16 (by decide) ?_
      refine V_ireturn (pc := 20) dX6_isLoss_20 rfl rfl (fun hR => ?_)
      first | (rw [b2_t (by omega)] at h; exact h) | (rw [b2_f (by omega)] at h; exact h)
theorem ct_X6_found {f : Int} (hf : 1 ≤ f ∧ f ≤ 5) (h : post (some (vi_ (-10 - f))) (ms_ σ 0 10 f)) : V_ l D mX6_found (CM_ D mX6_found post) 0 [some (vr_ 0), some (vi_ f)] [] σ := by
  refine V_aload_n (pc := 0) dX6_found_0 rfl rfl ?_
  refine V_iload_n (pc := 1) dX6_found_1 rfl rfl ?_
  refine V_puti (pc := 2) dX6_found_2 fX6_284 rfl gg_0 rfl pq_6_10 rfl rfl (by constructor <;> omega) ?_
  refine V_bipush (pc := 5) dX6_found_5 (by decide) ?_
  refine V_iload_n (pc := 7) dX6_found_7 rfl rfl ?_
  refine V_isub (pc := 8) dX6_found_8 ?_
  refine V_ireturn (pc := 9) dX6_found_9 rfl rfl (fun hR => ?_)
  exact h
theorem ct_X6_textAt_1 (h : post (some (vr_ 1)) σ) : V_ l D mX6_textAt (CM_ D mX6_textAt post) 0 [some (vr_ 0), some (vi_ 0)] [] σ := by
  refine V_iload_n (pc := 0) dX6_textAt_0 rfl rfl ?_
  refine V_tableIn (tgt := 28) (off := 27) (pc := 1) dX6_textAt_1 (by decide) (by decide) (by decide) (by decide) (by decide) ?_
  refine V_aload_n (pc := 28) dX6_textAt_28 rfl rfl ?_
  refine V_getr (pc := 29) dX6_textAt_29 fX6_16 rfl gg_0 rfl ?_
  refine V_areturn (pc := 32) dX6_textAt_32 rfl (Or.inl ⟨_, rfl⟩) (fun hR => ?_)
  exact h
theorem ct_X6_textAt_3 (h : post (some (vr_ 3)) σ) : V_ l D mX6_textAt (CM_ D mX6_textAt post) 0 [some (vr_ 0), some (vi_ 1)] [] σ := by
  refine V_iload_n (pc := 0) dX6_textAt_0 rfl rfl ?_
  refine V_tableIn (tgt := 33) (off := 32) (pc := 1) dX6_textAt_1 (by decide) (by decide) (by decide) (by decide) (by decide) ?_
  refine V_aload_n (pc := 33) dX6_textAt_33 rfl rfl ?_
  refine V_getr (pc := 34) dX6_textAt_34 fX6_22 rfl gg_0 rfl ?_
  refine V_areturn (pc := 37) dX6_textAt_37 rfl (Or.inl ⟨_, rfl⟩) (fun hR => ?_)
  exact h
theorem ct_X6_textAt_5 (h : post (some (vr_ 5)) σ) : V_ l D mX6_textAt (CM_ D mX6_textAt post) 0 [some (vr_ 0), some (vi_ 2)] [] σ := by
  refine V_iload_n (pc := 0) dX6_textAt_0 rfl rfl ?_
  refine V_tableIn (tgt := 38) (off := 37) (pc := 1) dX6_textAt_1 (by decide) (by decide) (by decide) (by decide) (by decide) ?_
  refine V_aload_n (pc := 38) dX6_textAt_38 rfl rfl ?_
  refine V_getr (pc := 39) dX6_textAt_39 fX6_27 rfl gg_0 rfl ?_
  refine V_areturn (pc := 42) dX6_textAt_42 rfl (Or.inl ⟨_, rfl⟩) (fun hR => ?_)
  exact h
theorem ct_X6_textAt_n {t : Int} (ht : Rg_ t) (hn : ¬ (0 ≤ t ∧ t ≤ 2)) (h : post (some vn_) σ) : V_ l D mX6_textAt (CM_ D mX6_textAt post) 0 [some (vr_ 0), some (vi_ t)] [] σ := by
  refine V_iload_n (pc := 0) dX6_textAt_0 rfl rfl ?_
  refine V_tableOut (tgt := 43) (pc := 1) dX6_textAt_1 (by first | assumption | decide | omega | exact ba_rg hR | exact b2_rg) (by omega) (by decide) ?_
  refine V_null (pc := 43) dX6_textAt_43 ?_
  refine V_areturn (pc := 44) dX6_textAt_44 rfl (Or.inl ⟨_, rfl⟩) (fun hR => ?_)
  exact h
theorem ct_X6_sheetAt_11 (h : post (some (vr_ 11)) σ) : V_ l D mX6_sheetAt (CM_ D mX6_sheetAt post) 0 [some (vr_ 0), some (vi_ 0)] [] σ := by
  refine V_iload_n (pc := 0) dX6_sheetAt_0 rfl rfl ?_
  refine V_iconst (pc := 1) dX6_sheetAt_1 ?_
  refine V_callS (pc := 2) (as := [_, _]) (rest := []) dX6_sheetAt_2 ⟨kX6_78, sX6_isWithin, by decide, by decide⟩ rfl rfl (Nat.le_of_ble_eq_true rfl) (Nat.le_of_ble_eq_true rfl) ?_
  refine ct_X6_isWithin (by first | assumption | decide | omega | exact ba_rg hR | exact b2_rg) (by first | assumption | decide | omega | exact ba_rg hR | exact b2_rg) ?_
  show V_ _ _ _ _ _ _ [_] _
  refine V_if_eq (tgt := 17) (pc := 5) dX6_sheetAt_5 (by decide) b2_rg (fun h5 => by rw [b2_0] at h5; exact absurd h5 (by decide)) (fun h5 => ?_)
  refine V_aload_n (pc := 8) dX6_sheetAt_8 rfl rfl ?_
  refine V_getr (pc := 9) dX6_sheetAt_9 fX6_41 rfl gg_0 rfl ?_
  refine V_iload_n (pc := 12) dX6_sheetAt_12 rfl rfl ?_
  refine V_aald (a := 11) (pc := 13) dX6_sheetAt_13 gg_54 (by decide) (by decide) rfl ?_
  refine V_goto (tgt := 18) (pc := 14) dX6_sheetAt_14 (by decide) ?_
  refine V_areturn (pc := 18) dX6_sheetAt_18 rfl (Or.inl ⟨_, rfl⟩) (fun hR => ?_)
  exact h
theorem ct_X6_sheetAt_13 (h : post (some (vr_ 13)) σ) : V_ l D mX6_sheetAt (CM_ D mX6_sheetAt post) 0 [some (vr_ 0), some (vi_ 1)] [] σ := by
  refine V_iload_n (pc := 0) dX6_sheetAt_0 rfl rfl ?_
  refine V_iconst (pc := 1) dX6_sheetAt_1 ?_
  refine V_callS (pc := 2) (as := [_, _]) (rest := []) dX6_sheetAt_2 ⟨kX6_78, sX6_isWithin, by decide, by decide⟩ rfl rfl (Nat.le_of_ble_eq_true rfl) (Nat.le_of_ble_eq_true rfl) ?_
  refine ct_X6_isWithin (by first | assumption | decide | omega | exact ba_rg hR | exact b2_rg) (by first | assumption | decide | omega | exact ba_rg hR | exact b2_rg) ?_
  show V_ _ _ _ _ _ _ [_] _
  refine V_if_eq (tgt := 17) (pc := 5) dX6_sheetAt_5 (by decide) b2_rg (fun h5 => by rw [b2_0] at h5; exact absurd h5 (by decide)) (fun h5 => ?_)
  refine V_aload_n (pc := 8) dX6_sheetAt_8 rfl rfl ?_
  refine V_getr (pc := 9) dX6_sheetAt_9 fX6_41 rfl gg_0 rfl ?_
  refine V_iload_n (pc := 12) dX6_sheetAt_12 rfl rfl ?_
  refine V_aald (a := 13) (pc := 13) dX6_sheetAt_13 gg_54 (by decide) (by decide) rfl ?_
  refine V_goto (tgt := 18) (pc := 14) dX6_sheetAt_14 (by decide) ?_
  refine V_areturn (pc := 18) dX6_sheetAt_18 rfl (Or.inl ⟨_, rfl⟩) (fun hR => ?_)
  exact h
theorem ct_X6_sheetAt_15 (h : post (some (vr_ 15)) σ) : V_ l D mX6_sheetAt (CM_ D mX6_sheetAt post) 0 [some (vr_ 0), some (vi_ 2)] [] σ := by
  refine V_iload_n (pc := 0) dX6_sheetAt_0 rfl rfl ?_
  refine V_iconst (pc := 1) dX6_sheetAt_1 ?_
  refine V_callS (pc := 2) (as := [_, _]) (rest := []) dX6_sheetAt_2 ⟨kX6_78, sX6_isWithin, by decide, by decide⟩ rfl rfl (Nat.le_of_ble_eq_true rfl) (Nat.le_of_ble_eq_true rfl) ?_
  refine ct_X6_isWithin (by first | assumption | decide | omega | exact ba_rg hR | exact b2_rg) (by first | assumption | decide | omega | exact ba_rg hR | exact b2_rg) ?_
  show V_ _ _ _ _ _ _ [_] _
  refine V_if_eq (tgt := 17) (pc := 5) dX6_sheetAt_5 (by decide) b2_rg (fun h5 => by rw [b2_0] at h5; exact absurd h5 (by decide)) (fun h5 => ?_)
  refine V_aload_n (pc := 8) dX6_sheetAt_8 rfl rfl ?_
  refine V_getr (pc := 9) dX6_sheetAt_9 fX6_41 rfl gg_0 rfl ?_
  refine V_iload_n (pc := 12) dX6_sheetAt_12 rfl rfl ?_
  refine V_aald (a := 15) (pc := 13) dX6_sheetAt_13 gg_54 (by decide) (by decide) rfl ?_
  refine V_goto (tgt := 18) (pc := 14) dX6_sheetAt_14 (by decide) ?_
  refine V_areturn (pc := 18) dX6_sheetAt_18 rfl (Or.inl ⟨_, rfl⟩) (fun hR => ?_)
  exact h
theorem ct_X6_sheetAt_17 (h : post (some (vr_ 17)) σ) : V_ l D mX6_sheetAt (CM_ D mX6_sheetAt post) 0 [some (vr_ 0), some (vi_ 3)] [] σ := by
  refine V_iload_n (pc := 0) dX6_sheetAt_0 rfl rfl ?_
  refine V_iconst (pc := 1) dX6_sheetAt_1 ?_
  refine V_callS (pc := 2) (as := [_, _]) (rest := []) dX6_sheetAt_2 ⟨kX6_78, sX6_isWithin, by decide, by decide⟩ rfl rfl (Nat.le_of_ble_eq_true rfl) (Nat.le_of_ble_eq_true rfl) ?_
  refine ct_X6_isWithin (by first | assumption | decide | omega | exact ba_rg hR | exact b2_rg) (by first | assumption | decide | omega | exact ba_rg hR | exact b2_rg) ?_
  show V_ _ _ _ _ _ _ [_] _
  refine V_if_eq (tgt := 17) (pc := 5) dX6_sheetAt_5 (by decide) b2_rg (fun h5 => by rw [b2_0] at h5; exact absurd h5 (by decide)) (fun h5 => ?_)
  refine V_aload_n (pc := 8) dX6_sheetAt_8 rfl rfl ?_
  refine V_getr (pc := 9) dX6_sheetAt_9 fX6_41 rfl gg_0 rfl ?_
  refine V_iload_n (pc := 12) dX6_sheetAt_12 rfl rfl ?_
  refine V_aald (a := 17) (pc := 13) dX6_sheetAt_13 gg_54 (by decide) (by decide) rfl ?_
  refine V_goto (tgt := 18) (pc := 14) dX6_sheetAt_14 (by decide) ?_
  refine V_areturn (pc := 18) dX6_sheetAt_18 rfl (Or.inl ⟨_, rfl⟩) (fun hR => ?_)
  exact h
theorem ct_X6_sheetAt_n {t : Int} (ht : Rg_ t) (hn : ¬ (0 ≤ t ∧ t ≤ 3)) (h : post (some vn_) σ) : V_ l D mX6_sheetAt (CM_ D mX6_sheetAt post) 0 [some (vr_ 0), some (vi_ t)] [] σ := by
  refine V_iload_n (pc := 0) dX6_sheetAt_0 rfl rfl ?_
  refine V_iconst (pc := 1) dX6_sheetAt_1 ?_
  refine V_callS (pc := 2) (as := [_, _]) (rest := []) dX6_sheetAt_2 ⟨kX6_78, sX6_isWithin, by decide, by decide⟩ rfl rfl (Nat.le_of_ble_eq_true rfl) (Nat.le_of_ble_eq_true rfl) ?_
  refine ct_X6_isWithin (by first | assumption | decide | omega | exact ba_rg hR | exact b2_rg) (by first | assumption | decide | omega | exact ba_rg hR | exact b2_rg) ?_
  show V_ _ _ _ _ _ _ [_] _
  refine V_if_eq (tgt := 17) (pc := 5) dX6_sheetAt_5 (by decide) (by first | assumption | decide | omega | exact ba_rg hR | exact b2_rg) (fun h5 => ?_) (fun h5 => by rw [b2_n0] at h5; exact absurd h5 hn)
  refine V_null (pc := 17) dX6_sheetAt_17 ?_
  refine V_areturn (pc := 18) dX6_sheetAt_18 rfl (Or.inl ⟨_, rfl⟩) (fun hR => ?_)
  exact h
theorem ct_X6_type_1 {b : Int} (hb : Rg_ b) (h : CR_ a σ) (hK : ∀ σ1, CR_ (nx_type a 0 b).2 σ1 → Fm_ σ σ1 → post (some (vi_ (nx_type a 0 b).1)) σ1) : V_ l D mX6_type (CM_ D mX6_type post) 0 [some (vr_ 0), some (vi_ 0), some (vi_ b), none] [] σ := by
  have hA := h.1.1
  have hT := h.1.2.1
  have hs := h.1.2.2.1
  have h0 := hA.1
  have hb2 := hA.2.1
  have e1 : σ 1 3 = a 0 0 := by unfold TR_ at hT; first | exact hT.1.1 | exact hT.2.1.1 | exact hT.2.2.1
  have e2 : σ 2 = a 1 := by unfold TR_ at hT; first | exact hT.1.2.1 | exact hT.2.1.2.1 | exact hT.2.2.2.1
  obtain ⟨q, hq⟩ := i_nat (show 0 ≤ a 0 0 by omega)
  refine V_aload_n (pc := 0) dX6_type_0 rfl rfl ?_
  refine V_iload_n (pc := 1) dX6_type_1 rfl rfl ?_
  refine V_callV (pc := 2) (as := [_]) (rest := []) dX6_type_2 ⟨kX6_74, iX6_textAt, by decide, by decide⟩ rc_0 rfl rfl (Nat.le_of_ble_eq_true rfl) (Nat.le_of_ble_eq_true rfl) ?_
  refine ct_X6_textAt_1 ?_
  show V_ _ _ _ _ _ _ [_] _
  refine V_astore_n (pc := 5) dX6_type_5 rfl (by decide) rfl ?_
  show V_ _ _ _ _ _ [_, _, _, _] _ _
  refine V_aload_n (pc := 6) dX6_type_6 rfl rfl ?_
  refine V_ifnull (tgt := 20) (pc := 7) dX6_type_7 (by decide) (fun z => by cases z) (fun _ _ => ?_)
  refine V_iload_n (pc := 10) dX6_type_10 rfl rfl ?_
  refine V_sipush (pc := 11) dX6_type_11 (by decide) ?_
  refine V_callS (pc := 14) (as := [_, _]) (rest := []) dX6_type_14 ⟨kX6_78, sX6_isWithin, by decide, by decide⟩ rfl rfl (Nat.le_of_ble_eq_true rfl) (Nat.le_of_ble_eq_true rfl) ?_
  refine ct_X6_isWithin (by first | assumption | decide | omega | exact ba_rg hR | exact b2_rg) (by first | assumption | decide | omega | exact ba_rg hR | exact b2_rg) ?_
  show V_ _ _ _ _ _ _ [_] _
  refine V_if_ne (tgt := 23) (pc := 17) dX6_type_17 (by decide) b2_rg (fun h17 => ?_) (fun h17 => ?_)
  · skip
    rw [b2_n0] at h17
    refine V_aload_n (pc := 23) dX6_type_23 rfl rfl ?_
    refine V_callV (pc := 24) (as := []) (rest := []) dX6_type_24 ⟨kX6_82, iX5_isFull, by decide, by decide⟩ rc_1 rfl rfl (Nat.le_of_ble_eq_true rfl) (Nat.le_of_ble_eq_true rfl) ?_
    refine ct_X5_isFull_1 ?_
    rw [e1]
    show V_ _ _ _ _ _ _ [_] _
    refine V_if_eq (tgt := 33) (pc := 27) dX6_type_27 (by decide) b2_rg (fun h27 => ?_) (fun h27 => ?_)
    · skip
      rw [b2_0] at h27
      have e : nx_type a 0 b = ((q : Int) + 1, ms_ (ms_ a 1 q b) 0 0 ((q : Int) + 1)) := by
        unfold nx_type
        rw [if_neg (by omega), show ((0 : Int)).toNat = 0 from rfl, if_neg (show ¬ cap_ 0 ≤ a 0 0 from h27), hq]
        rfl
      refine V_aload_n (pc := 33) dX6_type_33 rfl rfl ?_
      refine V_iload_n (pc := 34) dX6_type_34 rfl rfl ?_
      refine V_callV (pc := 35) (as := [_]) (rest := []) dX6_type_35 ⟨kX6_86, iX5_append, by decide, by decide⟩ rc_1 rfl rfl (Nat.le_of_ble_eq_true rfl) (Nat.le_of_ble_eq_true rfl) ?_
      refine ct_X5_append_1 (by assumption) (by omega) ?_
      rw [e1, hq, show ((q : Int)).toNat = q from rfl]
      have hcp : CP_ (ms_ (ms_ a 1 q b) 0 0 ((q : Int) + 1)) (ms_ (ms_ σ 2 q b) 1 3 ((q : Int) + 1)) := by
        refine h.1.text (hA.text (fun k hk => by rw [ms_rw (by omega), ms_rw (by omega)]) ?_ ?_ ?_ ((hA.2.2.2.2.2.2.2.ms (by constructor <;> omega)).ms (by constructor <;> omega))) (fun k hk => by rw [ms_rw (by omega), ms_rw (by omega)]) (fun k hk => by rw [ms_rw (by omega), ms_rw (by omega)]) ?_ ⟨?_, ?_⟩
        · simp [ms_]; omega
        · refine ⟨?_, ?_, ?_⟩ <;> (rw [ms_rw (by decide)]; exact ms_255 (by first | exact hb2.1 | exact hb2.2.1 | exact hb2.2.2) (by omega))
        · rw [ms_rw (by decide), ms_rw (by decide)]; exact hA.2.2.1
        · unfold TR_ at hT ⊢
          obtain ⟨⟨y1, y2, y3⟩, ⟨y4, y5, y6⟩, y7, y8, y9⟩ := hT
          refine ⟨⟨?_, ?_, ?_⟩, ⟨?_, ?_, ?_⟩, ?_, ?_, ?_⟩ <;> (try simp only [ms_rw, ne_eq, Nat.reduceEqDiff, not_false_eq_true, ms_eq]) <;> first | rfl | assumption | exact ms_rr e2 | (simp [ms_]; assumption)
        · rw [ms_rw (by decide), ms_rw (by decide), ms_rw (by decide), ms_rw (by decide)]; exact hs.1
        · rw [ms_rw (by decide), ms_rw (by decide)]
      show V_ _ _ _ _ _ _ [] _
      refine V_aload_n (pc := 38) dX6_type_38 rfl rfl ?_
      refine V_callV (pc := 39) (as := []) (rest := []) dX6_type_39 ⟨kX6_89, iX6_settle, by decide, by decide⟩ rc_0 rfl rfl (Nat.le_of_ble_eq_true rfl) (Nat.le_of_ble_eq_true rfl) ?_
      refine ct_X6_settle hcp (fun σ1 hB1 hB2 => ?_)
      show V_ _ _ _ _ _ _ [] _
      refine V_aload_n (pc := 42) dX6_type_42 rfl rfl ?_
      refine V_geti (pc := 43) dX6_type_43 fX6_92 rfl gg_1 rfl (fun r43 => ?_)
      rw [show σ1 1 3 = (q : Int) + 1 from by have z := hB1.1.2.1; unfold TR_ at z; first | (rw [z.1.1]; simp [ms_]) | (rw [z.2.1.1]; simp [ms_]) | (rw [z.2.2.1]; simp [ms_])] at r43 ⊢
      refine V_ireturn (pc := 46) dX6_type_46 rfl rfl (fun hR => ?_)
      have h2 := hK σ1 (by rw [e]; exact hB1) (((Fm_.rf.ms (by decide)).ms (by decide)).tr hB2)
      rw [e] at h2
      exact h2
    · skip
      rw [b2_n0] at h27
      have e : nx_type a 0 b = (-4, a) := by unfold nx_type; rw [if_neg (by omega), show ((0 : Int)).toNat = 0 from rfl, if_pos (show cap_ 0 ≤ a 0 0 from h27)]
      refine V_bipush (pc := 30) dX6_type_30 (by decide) ?_
      refine V_ireturn (pc := 32) dX6_type_32 rfl rfl (fun hR => ?_)
      have h2 := hK σ (by rw [e]; exact h) Fm_.rf
      rw [e] at h2
      exact h2
  · skip
    rw [b2_0] at h17
    have e : nx_type a 0 b = (-2, a) := by unfold nx_type; rw [if_pos (by omega)]
    refine V_bipush (pc := 20) dX6_type_20 (by decide) ?_
    refine V_ireturn (pc := 22) dX6_type_22 rfl rfl (fun hR => ?_)
    have h2 := hK σ (by rw [e]; exact h) Fm_.rf
    rw [e] at h2
    exact h2
theorem ct_X6_type_3 {b : Int} (hb : Rg_ b) (h : CR_ a σ) (hK : ∀ σ1, CR_ (nx_type a 1 b).2 σ1 → Fm_ σ σ1 → post (some (vi_ (nx_type a 1 b).1)) σ1) : V_ l D mX6_type (CM_ D mX6_type post) 0 [some (vr_ 0), some (vi_ 1), some (vi_ b), none] [] σ := by
  have hA := h.1.1
  have hT := h.1.2.1
  have hs := h.1.2.2.1
  have h0 := hA.1
  have hb2 := hA.2.1
  have e1 : σ 3 3 = a 0 1 := by unfold TR_ at hT; first | exact hT.1.1 | exact hT.2.1.1 | exact hT.2.2.1
  have e2 : σ 4 = a 2 := by unfold TR_ at hT; first | exact hT.1.2.1 | exact hT.2.1.2.1 | exact hT.2.2.2.1
  obtain ⟨q, hq⟩ := i_nat (show 0 ≤ a 0 1 by omega)
  refine V_aload_n (pc := 0) dX6_type_0 rfl rfl ?_
  refine V_iload_n (pc := 1) dX6_type_1 rfl rfl ?_
  refine V_callV (pc := 2) (as := [_]) (rest := []) dX6_type_2 ⟨kX6_74, iX6_textAt, by decide, by decide⟩ rc_0 rfl rfl (Nat.le_of_ble_eq_true rfl) (Nat.le_of_ble_eq_true rfl) ?_
  refine ct_X6_textAt_3 ?_
  show V_ _ _ _ _ _ _ [_] _
  refine V_astore_n (pc := 5) dX6_type_5 rfl (by decide) rfl ?_
  show V_ _ _ _ _ _ [_, _, _, _] _ _
  refine V_aload_n (pc := 6) dX6_type_6 rfl rfl ?_
  refine V_ifnull (tgt := 20) (pc := 7) dX6_type_7 (by decide) (fun z => by cases z) (fun _ _ => ?_)
  refine V_iload_n (pc := 10) dX6_type_10 rfl rfl ?_
  refine V_sipush (pc := 11) dX6_type_11 (by decide) ?_
  refine V_callS (pc := 14) (as := [_, _]) (rest := []) dX6_type_14 ⟨kX6_78, sX6_isWithin, by decide, by decide⟩ rfl rfl (Nat.le_of_ble_eq_true rfl) (Nat.le_of_ble_eq_true rfl) ?_
  refine ct_X6_isWithin (by first | assumption | decide | omega | exact ba_rg hR | exact b2_rg) (by first | assumption | decide | omega | exact ba_rg hR | exact b2_rg) ?_
  show V_ _ _ _ _ _ _ [_] _
  refine V_if_ne (tgt := 23) (pc := 17) dX6_type_17 (by decide) b2_rg (fun h17 => ?_) (fun h17 => ?_)
  · skip
    rw [b2_n0] at h17
    refine V_aload_n (pc := 23) dX6_type_23 rfl rfl ?_
    refine V_callV (pc := 24) (as := []) (rest := []) dX6_type_24 ⟨kX6_82, iX5_isFull, by decide, by decide⟩ rc_3 rfl rfl (Nat.le_of_ble_eq_true rfl) (Nat.le_of_ble_eq_true rfl) ?_
    refine ct_X5_isFull_3 ?_
    rw [e1]
    show V_ _ _ _ _ _ _ [_] _
    refine V_if_eq (tgt := 33) (pc := 27) dX6_type_27 (by decide) b2_rg (fun h27 => ?_) (fun h27 => ?_)
    · skip
      rw [b2_0] at h27
      have e : nx_type a 1 b = ((q : Int) + 1, ms_ (ms_ a 2 q b) 0 1 ((q : Int) + 1)) := by
        unfold nx_type
        rw [if_neg (by omega), show ((1 : Int)).toNat = 1 from rfl, if_neg (show ¬ cap_ 1 ≤ a 0 1 from h27), hq]
        rfl
      refine V_aload_n (pc := 33) dX6_type_33 rfl rfl ?_
      refine V_iload_n (pc := 34) dX6_type_34 rfl rfl ?_
      refine V_callV (pc := 35) (as := [_]) (rest := []) dX6_type_35 ⟨kX6_86, iX5_append, by decide, by decide⟩ rc_3 rfl rfl (Nat.le_of_ble_eq_true rfl) (Nat.le_of_ble_eq_true rfl) ?_
      refine ct_X5_append_3 (by assumption) (by omega) ?_
      rw [e1, hq, show ((q : Int)).toNat = q from rfl]
      have hcp : CP_ (ms_ (ms_ a 2 q b) 0 1 ((q : Int) + 1)) (ms_ (ms_ σ 4 q b) 3 3 ((q : Int) + 1)) := by
        refine h.1.text (hA.text (fun k hk => by rw [ms_rw (by omega), ms_rw (by omega)]) ?_ ?_ ?_ ((hA.2.2.2.2.2.2.2.ms (by constructor <;> omega)).ms (by constructor <;> omega))) (fun k hk => by rw [ms_rw (by omega), ms_rw (by omega)]) (fun k hk => by rw [ms_rw (by omega), ms_rw (by omega)]) ?_ ⟨?_, ?_⟩
        · simp [ms_]; omega
        · refine ⟨?_, ?_, ?_⟩ <;> (rw [ms_rw (by decide)]; exact ms_255 (by first | exact hb2.1 | exact hb2.2.1 | exact hb2.2.2) (by omega))
        · rw [ms_rw (by decide), ms_rw (by decide)]; exact hA.2.2.1
        · unfold TR_ at hT ⊢
          obtain ⟨⟨y1, y2, y3⟩, ⟨y4, y5, y6⟩, y7, y8, y9⟩ := hT
          refine ⟨⟨?_, ?_, ?_⟩, ⟨?_, ?_, ?_⟩, ?_, ?_, ?_⟩ <;> (try simp only [ms_rw, ne_eq, Nat.reduceEqDiff, not_false_eq_true, ms_eq]) <;> first | rfl | assumption | exact ms_rr e2 | (simp [ms_]; assumption)
        · rw [ms_rw (by decide), ms_rw (by decide), ms_rw (by decide), ms_rw (by decide)]; exact hs.1
        · rw [ms_rw (by decide), ms_rw (by decide)]
      show V_ _ _ _ _ _ _ [] _
      refine V_aload_n (pc := 38) dX6_type_38 rfl rfl ?_
      refine V_callV (pc := 39) (as := []) (rest := []) dX6_type_39 ⟨kX6_89, iX6_settle, by decide, by decide⟩ rc_0 rfl rfl (Nat.le_of_ble_eq_true rfl) (Nat.le_of_ble_eq_true rfl) ?_
      refine ct_X6_settle hcp (fun σ1 hB1 hB2 => ?_)
      show V_ _ _ _ _ _ _ [] _
      refine V_aload_n (pc := 42) dX6_type_42 rfl rfl ?_
      refine V_geti (pc := 43) dX6_type_43 fX6_92 rfl gg_3 rfl (fun r43 => ?_)
      rw [show σ1 3 3 = (q : Int) + 1 from by have z := hB1.1.2.1; unfold TR_ at z; first | (rw [z.1.1]; simp [ms_]) | (rw [z.2.1.1]; simp [ms_]) | (rw [z.2.2.1]; simp [ms_])] at r43 ⊢
      refine V_ireturn (pc := 46) dX6_type_46 rfl rfl (fun hR => ?_)
      have h2 := hK σ1 (by rw [e]; exact hB1) (((Fm_.rf.ms (by decide)).ms (by decide)).tr hB2)
      rw [e] at h2
      exact h2
    · skip
      rw [b2_n0] at h27
      have e : nx_type a 1 b = (-4, a) := by unfold nx_type; rw [if_neg (by omega), show ((1 : Int)).toNat = 1 from rfl, if_pos (show cap_ 1 ≤ a 0 1 from h27)]
      refine V_bipush (pc := 30) dX6_type_30 (by decide) ?_
      refine V_ireturn (pc := 32) dX6_type_32 rfl rfl (fun hR => ?_)
      have h2 := hK σ (by rw [e]; exact h) Fm_.rf
      rw [e] at h2
      exact h2
  · skip
    rw [b2_0] at h17
    have e : nx_type a 1 b = (-2, a) := by unfold nx_type; rw [if_pos (by omega)]
    refine V_bipush (pc := 20) dX6_type_20 (by decide) ?_
    refine V_ireturn (pc := 22) dX6_type_22 rfl rfl (fun hR => ?_)
    have h2 := hK σ (by rw [e]; exact h) Fm_.rf
    rw [e] at h2
    exact h2
theorem ct_X6_type_5 {b : Int} (hb : Rg_ b) (h : CR_ a σ) (hK : ∀ σ1, CR_ (nx_type a 2 b).2 σ1 → Fm_ σ σ1 → post (some (vi_ (nx_type a 2 b).1)) σ1) : V_ l D mX6_type (CM_ D mX6_type post) 0 [some (vr_ 0), some (vi_ 2), some (vi_ b), none] [] σ := by
  have hA := h.1.1
  have hT := h.1.2.1
  have hs := h.1.2.2.1
  have h0 := hA.1
  have hb2 := hA.2.1
  have e1 : σ 5 3 = a 0 2 := by unfold TR_ at hT; first | exact hT.1.1 | exact hT.2.1.1 | exact hT.2.2.1
  have e2 : σ 6 = a 3 := by unfold TR_ at hT; first | exact hT.1.2.1 | exact hT.2.1.2.1 | exact hT.2.2.2.1
  obtain ⟨q, hq⟩ := i_nat (show 0 ≤ a 0 2 by omega)
  refine V_aload_n (pc := 0) dX6_type_0 rfl rfl ?_
  refine V_iload_n (pc := 1) dX6_type_1 rfl rfl ?_
  refine V_callV (pc := 2) (as := [_]) (rest := []) dX6_type_2 ⟨kX6_74, iX6_textAt, by decide, by decide⟩ rc_0 rfl rfl (Nat.le_of_ble_eq_true rfl) (Nat.le_of_ble_eq_true rfl) ?_
  refine ct_X6_textAt_5 ?_
  show V_ _ _ _ _ _ _ [_] _
  refine V_astore_n (pc := 5) dX6_type_5 rfl (by decide) rfl ?_
  show V_ _ _ _ _ _ [_, _, _, _] _ _
  refine V_aload_n (pc := 6) dX6_type_6 rfl rfl ?_
  refine V_ifnull (tgt := 20) (pc := 7) dX6_type_7 (by decide) (fun z => by cases z) (fun _ _ => ?_)
  refine V_iload_n (pc := 10) dX6_type_10 rfl rfl ?_
  refine V_sipush (pc := 11) dX6_type_11 (by decide) ?_
  refine V_callS (pc := 14) (as := [_, _]) (rest := []) dX6_type_14 ⟨kX6_78, sX6_isWithin, by decide, by decide⟩ rfl rfl (Nat.le_of_ble_eq_true rfl) (Nat.le_of_ble_eq_true rfl) ?_
  refine ct_X6_isWithin (by first | assumption | decide | omega | exact ba_rg hR | exact b2_rg) (by first | assumption | decide | omega | exact ba_rg hR | exact b2_rg) ?_
  show V_ _ _ _ _ _ _ [_] _
  refine V_if_ne (tgt := 23) (pc := 17) dX6_type_17 (by decide) b2_rg (fun h17 => ?_) (fun h17 => ?_)
  · skip
    rw [b2_n0] at h17
    refine V_aload_n (pc := 23) dX6_type_23 rfl rfl ?_
    refine V_callV (pc := 24) (as := []) (rest := []) dX6_type_24 ⟨kX6_82, iX5_isFull, by decide, by decide⟩ rc_5 rfl rfl (Nat.le_of_ble_eq_true rfl) (Nat.le_of_ble_eq_true rfl) ?_
    refine ct_X5_isFull_5 ?_
    rw [e1]
    show V_ _ _ _ _ _ _ [_] _
    refine V_if_eq (tgt := 33) (pc := 27) dX6_type_27 (by decide) b2_rg (fun h27 => ?_) (fun h27 => ?_)
    · skip
      rw [b2_0] at h27
      have e : nx_type a 2 b = ((q : Int) + 1, ms_ (ms_ a 3 q b) 0 2 ((q : Int) + 1)) := by
        unfold nx_type
        rw [if_neg (by omega), show ((2 : Int)).toNat = 2 from rfl, if_neg (show ¬ cap_ 2 ≤ a 0 2 from h27), hq]
        rfl
      refine V_aload_n (pc := 33) dX6_type_33 rfl rfl ?_
      refine V_iload_n (pc := 34) dX6_type_34 rfl rfl ?_
      refine V_callV (pc := 35) (as := [_]) (rest := []) dX6_type_35 ⟨kX6_86, iX5_append, by decide, by decide⟩ rc_5 rfl rfl (Nat.le_of_ble_eq_true rfl) (Nat.le_of_ble_eq_true rfl) ?_
      refine ct_X5_append_5 (by assumption) (by omega) ?_
      rw [e1, hq, show ((q : Int)).toNat = q from rfl]
      have hcp : CP_ (ms_ (ms_ a 3 q b) 0 2 ((q : Int) + 1)) (ms_ (ms_ σ 6 q b) 5 3 ((q : Int) + 1)) := by
        refine h.1.text (hA.text (fun k hk => by rw [ms_rw (by omega), ms_rw (by omega)]) ?_ ?_ ?_ ((hA.2.2.2.2.2.2.2.ms (by constructor <;> omega)).ms (by constructor <;> omega))) (fun k hk => by rw [ms_rw (by omega), ms_rw (by omega)]) (fun k hk => by rw [ms_rw (by omega), ms_rw (by omega)]) ?_ ⟨?_, ?_⟩
        · simp [ms_]; omega
        · refine ⟨?_, ?_, ?_⟩ <;> (rw [ms_rw (by decide)]; exact ms_255 (by first | exact hb2.1 | exact hb2.2.1 | exact hb2.2.2) (by omega))
        · rw [ms_rw (by decide), ms_rw (by decide)]; exact hA.2.2.1
        · unfold TR_ at hT ⊢
          obtain ⟨⟨y1, y2, y3⟩, ⟨y4, y5, y6⟩, y7, y8, y9⟩ := hT
          refine ⟨⟨?_, ?_, ?_⟩, ⟨?_, ?_, ?_⟩, ?_, ?_, ?_⟩ <;> (try simp only [ms_rw, ne_eq, Nat.reduceEqDiff, not_false_eq_true, ms_eq]) <;> first | rfl | assumption | exact ms_rr e2 | (simp [ms_]; assumption)
        · rw [ms_rw (by decide), ms_rw (by decide), ms_rw (by decide), ms_rw (by decide)]; exact hs.1
        · rw [ms_rw (by decide), ms_rw (by decide)]
      show V_ _ _ _ _ _ _ [] _
      refine V_aload_n (pc := 38) dX6_type_38 rfl rfl ?_
      refine V_callV (pc := 39) (as := []) (rest := []) dX6_type_39 ⟨kX6_89, iX6_settle, by decide, by decide⟩ rc_0 rfl rfl (Nat.le_of_ble_eq_true rfl) (Nat.le_of_ble_eq_true rfl) ?_
      refine ct_X6_settle hcp (fun σ1 hB1 hB2 => ?_)
      show V_ _ _ _ _ _ _ [] _
      refine V_aload_n (pc := 42) dX6_type_42 rfl rfl ?_
      refine V_geti (pc := 43) dX6_type_43 fX6_92 rfl gg_5 rfl (fun r43 => ?_)
      rw [show σ1 5 3 = (q : Int) + 1 from by have z := hB1.1.2.1; unfold TR_ at z; first | (rw [z.1.1]; simp [ms_]) | (rw [z.2.1.1]; simp [ms_]) | (rw [z.2.2.1]; simp [ms_])] at r43 ⊢
      refine V_ireturn (pc := 46) dX6_type_46 rfl rfl (fun hR => ?_)
      have h2 := hK σ1 (by rw [e]; exact hB1) (((Fm_.rf.ms (by decide)).ms (by decide)).tr hB2)
      rw [e] at h2
      exact h2
    · skip
      rw [b2_n0] at h27
      have e : nx_type a 2 b = (-4, a) := by unfold nx_type; rw [if_neg (by omega), show ((2 : Int)).toNat = 2 from rfl, if_pos (show cap_ 2 ≤ a 0 2 from h27)]
      refine V_bipush (pc := 30) dX6_type_30 (by decide) ?_
      refine V_ireturn (pc := 32) dX6_type_32 rfl rfl (fun hR => ?_)
      have h2 := hK σ (by rw [e]; exact h) Fm_.rf
      rw [e] at h2
      exact h2
  · skip
    rw [b2_0] at h17
    have e : nx_type a 2 b = (-2, a) := by unfold nx_type; rw [if_pos (by omega)]
    refine V_bipush (pc := 20) dX6_type_20 (by decide) ?_
    refine V_ireturn (pc := 22) dX6_type_22 rfl rfl (fun hR => ?_)
    have h2 := hK σ (by rw [e]; exact h) Fm_.rf
    rw [e] at h2
    exact h2
theorem ct_X6_type {t b : Int} (ht : Rg_ t) (hb : Rg_ b) (h : CR_ a σ) (hK : ∀ σ1, CR_ (nx_type a t b).2 σ1 → Fm_ σ σ1 → post (some (vi_ (nx_type a t b).1)) σ1) : V_ l D mX6_type (CM_ D mX6_type post) 0 [some (vr_ 0), some (vi_ t), some (vi_ b), none] [] σ := by
  by_cases c0 : t = 0
  · subst c0; exact ct_X6_type_1 hb h hK
  by_cases c1 : t = 1
  · subst c1; exact ct_X6_type_3 hb h hK
  by_cases c2 : t = 2
  · subst c2; exact ct_X6_type_5 hb h hK
  have e : nx_type a t b = (-2, a) := by unfold nx_type; rw [if_pos (by omega)]
  refine V_aload_n (pc := 0) dX6_type_0 rfl rfl ?_
  refine V_iload_n (pc := 1) dX6_type_1 rfl rfl ?_
  refine V_callV (pc := 2) (as := [_]) (rest := []) dX6_type_2 ⟨kX6_74, iX6_textAt, by decide, by decide⟩ rc_0 rfl rfl (Nat.le_of_ble_eq_true rfl) (Nat.le_of_ble_eq_true rfl) ?_
  refine ct_X6_textAt_n ht (by omega) ?_
  show V_ _ _ _ _ _ _ [_] _
  refine V_astore_n (pc := 5) dX6_type_5 rfl (by decide) rfl ?_
  show V_ _ _ _ _ _ [_, _, _, _] _ _
  refine V_aload_n (pc := 6) dX6_type_6 rfl rfl ?_
  refine V_ifnull (tgt := 20) (pc := 7) dX6_type_7 (by decide) (fun _ => ?_) (fun _ z => by cases z)
  refine V_bipush (pc := 20) dX6_type_20 (by decide) ?_
  refine V_ireturn (pc := 22) dX6_type_22 rfl rfl (fun hR => ?_)
  have h2 := hK σ (by rw [e]; exact h) Fm_.rf
  rw [e] at h2
  exact h2
theorem ct_X6_wipe_1 (h : CR_ a σ) (hK : ∀ σ1, CR_ (nx_wipe a 0).2 σ1 → Fm_ σ σ1 → post (some (vi_ (nx_wipe a 0).1)) σ1) : V_ l D mX6_wipe (CM_ D mX6_wipe post) 0 [some (vr_ 0), some (vi_ 0), none, none] [] σ := by
  have hA := h.1.1
  have hT := h.1.2.1
  have hs := h.1.2.2.1
  have h0 := hA.1
  have hb2 := hA.2.1
  have e1 : σ 1 3 = a 0 0 := by unfold TR_ at hT; first | exact hT.1.1 | exact hT.2.1.1 | exact hT.2.2.1
  have e2 : σ 2 = a 1 := by unfold TR_ at hT; first | exact hT.1.2.1 | exact hT.2.1.2.1 | exact hT.2.2.2.1
  obtain ⟨q, hq⟩ := i_nat (show 0 ≤ a 0 0 by omega)
  refine V_aload_n (pc := 0) dX6_wipe_0 rfl rfl ?_
  refine V_iload_n (pc := 1) dX6_wipe_1 rfl rfl ?_
  refine V_callV (pc := 2) (as := [_]) (rest := []) dX6_wipe_2 ⟨kX6_74, iX6_textAt, by decide, by decide⟩ rc_0 rfl rfl (Nat.le_of_ble_eq_true rfl) (Nat.le_of_ble_eq_true rfl) ?_
  refine ct_X6_textAt_1 ?_
  show V_ _ _ _ _ _ _ [_] _
  refine V_astore_n (pc := 5) dX6_wipe_5 rfl (by decide) rfl ?_
  show V_ _ _ _ _ _ [_, _, _, _] _ _
  refine V_aload_n (pc := 6) dX6_wipe_6 rfl rfl ?_
  refine V_ifnonnull (tgt := 13) (pc := 7) dX6_wipe_7 (by decide) (fun _ _ => ?_) (fun z => by cases z)
  refine V_aload_n (pc := 13) dX6_wipe_13 rfl rfl ?_
  refine V_geti (pc := 14) dX6_wipe_14 fX6_92 rfl gg_1 rfl (fun r14 => ?_)
  rw [e1] at r14 ⊢
  refine V_istore_n (pc := 17) dX6_wipe_17 rfl (by decide) rfl ?_
  show V_ _ _ _ _ _ [_, _, _, _] _ _
  refine V_aload_n (pc := 18) dX6_wipe_18 rfl rfl ?_
  refine V_iconst (pc := 19) dX6_wipe_19 ?_
  refine V_puti (pc := 20) dX6_wipe_20 fX6_92 rfl gg_1 rfl pq_5_3 rfl rfl (by decide) ?_
  refine V_aload_n (pc := 23) dX6_wipe_23 rfl rfl ?_
  refine V_callV (pc := 24) (as := []) (rest := []) dX6_wipe_24 ⟨kX6_89, iX6_settle, by decide, by decide⟩ rc_0 rfl rfl (Nat.le_of_ble_eq_true rfl) (Nat.le_of_ble_eq_true rfl) ?_
  have hcp : CP_ (ms_ a 0 0 (0)) (ms_ σ 1 3 (0)) := by
    refine h.1.text (hA.text (fun k hk => by rw [ms_rw (by omega)]) ?_ ?_ ?_ (hA.2.2.2.2.2.2.2.ms (by constructor <;> omega))) (fun k hk => by rw [ms_rw (by omega)]) (fun k hk => by rw [ms_rw (by omega)]) ?_ ⟨?_, ?_⟩
    · simp [ms_]; omega
    · rw [ms_rw (by decide), ms_rw (by decide), ms_rw (by decide)]; exact hb2
    · rw [ms_rw (by decide)]; exact hA.2.2.1
    · unfold TR_ at hT ⊢
      obtain ⟨⟨y1, y2, y3⟩, ⟨y4, y5, y6⟩, y7, y8, y9⟩ := hT
      refine ⟨⟨?_, ?_, ?_⟩, ⟨?_, ?_, ?_⟩, ?_, ?_, ?_⟩ <;> (try simp only [ms_rw, ne_eq, Nat.reduceEqDiff, not_false_eq_true, ms_eq]) <;> first | rfl | assumption | (simp [ms_]; assumption)
    · rw [ms_rw (by decide), ms_rw (by decide)]; exact hs.1
    · rw [ms_rw (by decide)]
  refine ct_X6_settle hcp (fun σ1 hB1 hB2 => ?_)
  show V_ _ _ _ _ _ _ [] _
  refine V_iload_n (pc := 27) dX6_wipe_27 rfl rfl ?_
  refine V_ireturn (pc := 28) dX6_wipe_28 rfl rfl (fun hR => ?_)
  have h2 := hK σ1 hB1 ((Fm_.rf.ms (by decide)).tr hB2)
  exact h2
theorem ct_X6_wipe_3 (h : CR_ a σ) (hK : ∀ σ1, CR_ (nx_wipe a 1).2 σ1 → Fm_ σ σ1 → post (some (vi_ (nx_wipe a 1).1)) σ1) : V_ l D mX6_wipe (CM_ D mX6_wipe post) 0 [some (vr_ 0), some (vi_ 1), none, none] [] σ := by
  have hA := h.1.1
  have hT := h.1.2.1
  have hs := h.1.2.2.1
  have h0 := hA.1
  have hb2 := hA.2.1
  have e1 : σ 3 3 = a 0 1 := by unfold TR_ at hT; first | exact hT.1.1 | exact hT.2.1.1 | exact hT.2.2.1
  have e2 : σ 4 = a 2 := by unfold TR_ at hT; first | exact hT.1.2.1 | exact hT.2.1.2.1 | exact hT.2.2.2.1
  obtain ⟨q, hq⟩ := i_nat (show 0 ≤ a 0 1 by omega)
  refine V_aload_n (pc := 0) dX6_wipe_0 rfl rfl ?_
  refine V_iload_n (pc := 1) dX6_wipe_1 rfl rfl ?_
  refine V_callV (pc := 2) (as := [_]) (rest := []) dX6_wipe_2 ⟨kX6_74, iX6_textAt, by decide, by decide⟩ rc_0 rfl rfl (Nat.le_of_ble_eq_true rfl) (Nat.le_of_ble_eq_true rfl) ?_
  refine ct_X6_textAt_3 ?_
  show V_ _ _ _ _ _ _ [_] _
  refine V_astore_n (pc := 5) dX6_wipe_5 rfl (by decide) rfl ?_
  show V_ _ _ _ _ _ [_, _, _, _] _ _
  refine V_aload_n (pc := 6) dX6_wipe_6 rfl rfl ?_
  refine V_ifnonnull (tgt := 13) (pc := 7) dX6_wipe_7 (by decide) (fun _ _ => ?_) (fun z => by cases z)
  refine V_aload_n (pc := 13) dX6_wipe_13 rfl rfl ?_
  refine V_geti (pc := 14) dX6_wipe_14 fX6_92 rfl gg_3 rfl (fun r14 => ?_)
  rw [e1] at r14 ⊢
  refine V_istore_n (pc := 17) dX6_wipe_17 rfl (by decide) rfl ?_
  show V_ _ _ _ _ _ [_, _, _, _] _ _
  refine V_aload_n (pc := 18) dX6_wipe_18 rfl rfl ?_
  refine V_iconst (pc := 19) dX6_wipe_19 ?_
  refine V_puti (pc := 20) dX6_wipe_20 fX6_92 rfl gg_3 rfl pq_5_3 rfl rfl (by decide) ?_
  refine V_aload_n (pc := 23) dX6_wipe_23 rfl rfl ?_
  refine V_callV (pc := 24) (as := []) (rest := []) dX6_wipe_24 ⟨kX6_89, iX6_settle, by decide, by decide⟩ rc_0 rfl rfl (Nat.le_of_ble_eq_true rfl) (Nat.le_of_ble_eq_true rfl) ?_
  have hcp : CP_ (ms_ a 0 1 (0)) (ms_ σ 3 3 (0)) := by
    refine h.1.text (hA.text (fun k hk => by rw [ms_rw (by omega)]) ?_ ?_ ?_ (hA.2.2.2.2.2.2.2.ms (by constructor <;> omega))) (fun k hk => by rw [ms_rw (by omega)]) (fun k hk => by rw [ms_rw (by omega)]) ?_ ⟨?_, ?_⟩
    · simp [ms_]; omega
    · rw [ms_rw (by decide), ms_rw (by decide), ms_rw (by decide)]; exact hb2
    · rw [ms_rw (by decide)]; exact hA.2.2.1
    · unfold TR_ at hT ⊢
      obtain ⟨⟨y1, y2, y3⟩, ⟨y4, y5, y6⟩, y7, y8, y9⟩ := hT
      refine ⟨⟨?_, ?_, ?_⟩, ⟨?_, ?_, ?_⟩, ?_, ?_, ?_⟩ <;> (try simp only [ms_rw, ne_eq, Nat.reduceEqDiff, not_false_eq_true, ms_eq]) <;> first | rfl | assumption | (simp [ms_]; assumption)
    · rw [ms_rw (by decide), ms_rw (by decide)]; exact hs.1
    · rw [ms_rw (by decide)]
  refine ct_X6_settle hcp (fun σ1 hB1 hB2 => ?_)
  show V_ _ _ _ _ _ _ [] _
  refine V_iload_n (pc := 27) dX6_wipe_27 rfl rfl ?_
  refine V_ireturn (pc := 28) dX6_wipe_28 rfl rfl (fun hR => ?_)
  have h2 := hK σ1 hB1 ((Fm_.rf.ms (by decide)).tr hB2)
  exact h2
theorem ct_X6_wipe_5 (h : CR_ a σ) (hK : ∀ σ1, CR_ (nx_wipe a 2).2 σ1 → Fm_ σ σ1 → post (some (vi_ (nx_wipe a 2).1)) σ1) : V_ l D mX6_wipe (CM_ D mX6_wipe post) 0 [some (vr_ 0), some (vi_ 2), none, none] [] σ := by
  have hA := h.1.1
  have hT := h.1.2.1
  have hs := h.1.2.2.1
  have h0 := hA.1
  have hb2 := hA.2.1
  have e1 : σ 5 3 = a 0 2 := by unfold TR_ at hT; first | exact hT.1.1 | exact hT.2.1.1 | exact hT.2.2.1
  have e2 : σ 6 = a 3 := by unfold TR_ at hT; first | exact hT.1.2.1 | exact hT.2.1.2.1 | exact hT.2.2.2.1
  obtain ⟨q, hq⟩ := i_nat (show 0 ≤ a 0 2 by omega)
  refine V_aload_n (pc := 0) dX6_wipe_0 rfl rfl ?_
  refine V_iload_n (pc := 1) dX6_wipe_1 rfl rfl ?_
  refine V_callV (pc := 2) (as := [_]) (rest := []) dX6_wipe_2 ⟨kX6_74, iX6_textAt, by decide, by decide⟩ rc_0 rfl rfl (Nat.le_of_ble_eq_true rfl) (Nat.le_of_ble_eq_true rfl) ?_
  refine ct_X6_textAt_5 ?_
  show V_ _ _ _ _ _ _ [_] _
  refine V_astore_n (pc := 5) dX6_wipe_5 rfl (by decide) rfl ?_
  show V_ _ _ _ _ _ [_, _, _, _] _ _
  refine V_aload_n (pc := 6) dX6_wipe_6 rfl rfl ?_
  refine V_ifnonnull (tgt := 13) (pc := 7) dX6_wipe_7 (by decide) (fun _ _ => ?_) (fun z => by cases z)
  refine V_aload_n (pc := 13) dX6_wipe_13 rfl rfl ?_
  refine V_geti (pc := 14) dX6_wipe_14 fX6_92 rfl gg_5 rfl (fun r14 => ?_)
  rw [e1] at r14 ⊢
  refine V_istore_n (pc := 17) dX6_wipe_17 rfl (by decide) rfl ?_
  show V_ _ _ _ _ _ [_, _, _, _] _ _
  refine V_aload_n (pc := 18) dX6_wipe_18 rfl rfl ?_
  refine V_iconst (pc := 19) dX6_wipe_19 ?_
  refine V_puti (pc := 20) dX6_wipe_20 fX6_92 rfl gg_5 rfl pq_5_3 rfl rfl (by decide) ?_
  refine V_aload_n (pc := 23) dX6_wipe_23 rfl rfl ?_
  refine V_callV (pc := 24) (as := []) (rest := []) dX6_wipe_24 ⟨kX6_89, iX6_settle, by decide, by decide⟩ rc_0 rfl rfl (Nat.le_of_ble_eq_true rfl) (Nat.le_of_ble_eq_true rfl) ?_
  have hcp : CP_ (ms_ a 0 2 (0)) (ms_ σ 5 3 (0)) := by
    refine h.1.text (hA.text (fun k hk => by rw [ms_rw (by omega)]) ?_ ?_ ?_ (hA.2.2.2.2.2.2.2.ms (by constructor <;> omega))) (fun k hk => by rw [ms_rw (by omega)]) (fun k hk => by rw [ms_rw (by omega)]) ?_ ⟨?_, ?_⟩
    · simp [ms_]; omega
    · rw [ms_rw (by decide), ms_rw (by decide), ms_rw (by decide)]; exact hb2
    · rw [ms_rw (by decide)]; exact hA.2.2.1
    · unfold TR_ at hT ⊢
      obtain ⟨⟨y1, y2, y3⟩, ⟨y4, y5, y6⟩, y7, y8, y9⟩ := hT
      refine ⟨⟨?_, ?_, ?_⟩, ⟨?_, ?_, ?_⟩, ?_, ?_, ?_⟩ <;> (try simp only [ms_rw, ne_eq, Nat.reduceEqDiff, not_false_eq_true, ms_eq]) <;> first | rfl | assumption | (simp [ms_]; assumption)
    · rw [ms_rw (by decide), ms_rw (by decide)]; exact hs.1
    · rw [ms_rw (by decide)]
  refine ct_X6_settle hcp (fun σ1 hB1 hB2 => ?_)
  show V_ _ _ _ _ _ _ [] _
  refine V_iload_n (pc := 27) dX6_wipe_27 rfl rfl ?_
  refine V_ireturn (pc := 28) dX6_wipe_28 rfl rfl (fun hR => ?_)
  have h2 := hK σ1 hB1 ((Fm_.rf.ms (by decide)).tr hB2)
  exact h2
theorem ct_X6_wipe {t : Int} (ht : Rg_ t) (h : CR_ a σ) (hK : ∀ σ1, CR_ (nx_wipe a t).2 σ1 → Fm_ σ σ1 → post (some (vi_ (nx_wipe a t).1)) σ1) : V_ l D mX6_wipe (CM_ D mX6_wipe post) 0 [some (vr_ 0), some (vi_ t), none, none] [] σ := by
  by_cases c0 : t = 0
  · subst c0; exact ct_X6_wipe_1 h hK
  by_cases c1 : t = 1
  · subst c1; exact ct_X6_wipe_3 h hK
  by_cases c2 : t = 2
  · subst c2; exact ct_X6_wipe_5 h hK
  have e : nx_wipe a t = (-2, a) := by unfold nx_wipe; rw [if_pos (by omega)]
  refine V_aload_n (pc := 0) dX6_wipe_0 rfl rfl ?_
  refine V_iload_n (pc := 1) dX6_wipe_1 rfl rfl ?_
  refine V_callV (pc := 2) (as := [_]) (rest := []) dX6_wipe_2 ⟨kX6_74, iX6_textAt, by decide, by decide⟩ rc_0 rfl rfl (Nat.le_of_ble_eq_true rfl) (Nat.le_of_ble_eq_true rfl) ?_
  refine ct_X6_textAt_n ht (by omega) ?_
  show V_ _ _ _ _ _ _ [_] _
  refine V_astore_n (pc := 5) dX6_wipe_5 rfl (by decide) rfl ?_
  show V_ _ _ _ _ _ [_, _, _, _] _ _
  refine V_aload_n (pc := 6) dX6_wipe_6 rfl rfl ?_
  refine V_ifnonnull (tgt := 13) (pc := 7) dX6_wipe_7 (by decide) (fun _ z => by cases z) (fun _ => ?_)
  refine V_bipush (pc := 10) dX6_wipe_10 (by decide) ?_
  refine V_ireturn (pc := 12) dX6_wipe_12 rfl rfl (fun hR => ?_)
  have h2 := hK σ (by rw [e]; exact h) Fm_.rf
  rw [e] at h2
  exact h2
theorem ct_X6_undo_1 (h : CR_ a σ) (hK : ∀ σ1, CR_ (nx_undo a 0).2 σ1 → Fm_ σ σ1 → post (some (vi_ (nx_undo a 0).1)) σ1) : V_ l D mX6_undo (CM_ D mX6_undo post) 0 [some (vr_ 0), some (vi_ 0), none] [] σ := by
  have hA := h.1.1
  have hT := h.1.2.1
  have hs := h.1.2.2.1
  have h0 := hA.1
  have hb2 := hA.2.1
  have e1 : σ 1 3 = a 0 0 := by unfold TR_ at hT; first | exact hT.1.1 | exact hT.2.1.1 | exact hT.2.2.1
  have e2 : σ 2 = a 1 := by unfold TR_ at hT; first | exact hT.1.2.1 | exact hT.2.1.2.1 | exact hT.2.2.2.1
  obtain ⟨q, hq⟩ := i_nat (show 0 ≤ a 0 0 by omega)
  refine V_aload_n (pc := 0) dX6_undo_0 rfl rfl ?_
  refine V_iload_n (pc := 1) dX6_undo_1 rfl rfl ?_
  refine V_callV (pc := 2) (as := [_]) (rest := []) dX6_undo_2 ⟨kX6_74, iX6_textAt, by decide, by decide⟩ rc_0 rfl rfl (Nat.le_of_ble_eq_true rfl) (Nat.le_of_ble_eq_true rfl) ?_
  refine ct_X6_textAt_1 ?_
  show V_ _ _ _ _ _ _ [_] _
  refine V_astore_n (pc := 5) dX6_undo_5 rfl (by decide) rfl ?_
  show V_ _ _ _ _ _ [_, _, _] _ _
  refine V_aload_n (pc := 6) dX6_undo_6 rfl rfl ?_
  refine V_ifnonnull (tgt := 13) (pc := 7) dX6_undo_7 (by decide) (fun _ _ => ?_) (fun z => by cases z)
  refine V_aload_n (pc := 13) dX6_undo_13 rfl rfl ?_
  refine V_geti (pc := 14) dX6_undo_14 fX6_92 rfl gg_1 rfl (fun r14 => ?_)
  rw [e1] at r14 ⊢
  refine V_if_ne (tgt := 23) (pc := 17) dX6_undo_17 (by decide) (by first | assumption | decide | omega | exact ba_rg hR | exact b2_rg) (fun h17 => ?_) (fun h17 => ?_)
  · skip
    have e : nx_undo a 0 = ((q : Int) - 1, ms_ a 0 0 ((q : Int) - 1)) := by
      unfold nx_undo
      rw [if_neg (by omega), show ((0 : Int)).toNat = 0 from rfl, if_neg (show ¬ a 0 0 = 0 from h17), hq]
    refine V_aload_n (pc := 23) dX6_undo_23 rfl rfl ?_
    refine V_dup (pc := 24) dX6_undo_24 rfl ?_
    refine V_geti (pc := 25) dX6_undo_25 fX6_92 rfl gg_1 rfl (fun r25 => ?_)
    rw [e1, hq] at r25 ⊢
    refine V_iconst (pc := 28) dX6_undo_28 ?_
    refine V_isub (pc := 29) dX6_undo_29 ?_
    refine V_puti (pc := 30) dX6_undo_30 fX6_92 rfl gg_1 rfl pq_5_3 rfl rfl (by constructor <;> omega) ?_
    refine V_aload_n (pc := 33) dX6_undo_33 rfl rfl ?_
    refine V_callV (pc := 34) (as := []) (rest := []) dX6_undo_34 ⟨kX6_89, iX6_settle, by decide, by decide⟩ rc_0 rfl rfl (Nat.le_of_ble_eq_true rfl) (Nat.le_of_ble_eq_true rfl) ?_
    have hcp : CP_ (ms_ a 0 0 ((q : Int) - 1)) (ms_ σ 1 3 ((q : Int) - 1)) := by
      refine h.1.text (hA.text (fun k hk => by rw [ms_rw (by omega)]) ?_ ?_ ?_ (hA.2.2.2.2.2.2.2.ms (by constructor <;> omega))) (fun k hk => by rw [ms_rw (by omega)]) (fun k hk => by rw [ms_rw (by omega)]) ?_ ⟨?_, ?_⟩
      · simp [ms_]; omega
      · rw [ms_rw (by decide), ms_rw (by decide), ms_rw (by decide)]; exact hb2
      · rw [ms_rw (by decide)]; exact hA.2.2.1
      · unfold TR_ at hT ⊢
        obtain ⟨⟨y1, y2, y3⟩, ⟨y4, y5, y6⟩, y7, y8, y9⟩ := hT
        refine ⟨⟨?_, ?_, ?_⟩, ⟨?_, ?_, ?_⟩, ?_, ?_, ?_⟩ <;> (try simp only [ms_rw, ne_eq, Nat.reduceEqDiff, not_false_eq_true, ms_eq]) <;> first | rfl | assumption | (simp [ms_]; assumption)
      · rw [ms_rw (by decide), ms_rw (by decide)]; exact hs.1
      · rw [ms_rw (by decide)]
    refine ct_X6_settle hcp (fun σ1 hB1 hB2 => ?_)
    show V_ _ _ _ _ _ _ [] _
    refine V_aload_n (pc := 37) dX6_undo_37 rfl rfl ?_
    refine V_geti (pc := 38) dX6_undo_38 fX6_92 rfl gg_1 rfl (fun r38 => ?_)
    rw [show σ1 1 3 = (q : Int) - 1 from by have z := hB1.1.2.1; unfold TR_ at z; first | (rw [z.1.1]; simp [ms_]) | (rw [z.2.1.1]; simp [ms_]) | (rw [z.2.2.1]; simp [ms_])] at r38 ⊢
    refine V_ireturn (pc := 41) dX6_undo_41 rfl rfl (fun hR => ?_)
    have h2 := hK σ1 (by rw [e]; exact hB1) ((Fm_.rf.ms (by decide)).tr hB2)
    rw [e] at h2
    exact h2
  · skip
    have e : nx_undo a 0 = (-3, a) := by unfold nx_undo; rw [if_neg (by omega), show ((0 : Int)).toNat = 0 from rfl, if_pos (show a 0 0 = 0 from h17)]
    refine V_bipush (pc := 20) dX6_undo_20 (by decide) ?_
    refine V_ireturn (pc := 22) dX6_undo_22 rfl rfl (fun hR => ?_)
    have h2 := hK σ (by rw [e]; exact h) Fm_.rf
    rw [e] at h2
    exact h2
theorem ct_X6_undo_3 (h : CR_ a σ) (hK : ∀ σ1, CR_ (nx_undo a 1).2 σ1 → Fm_ σ σ1 → post (some (vi_ (nx_undo a 1).1)) σ1) : V_ l D mX6_undo (CM_ D mX6_undo post) 0 [some (vr_ 0), some (vi_ 1), none] [] σ := by
  have hA := h.1.1
  have hT := h.1.2.1
  have hs := h.1.2.2.1
  have h0 := hA.1
  have hb2 := hA.2.1
  have e1 : σ 3 3 = a 0 1 := by unfold TR_ at hT; first | exact hT.1.1 | exact hT.2.1.1 | exact hT.2.2.1
  have e2 : σ 4 = a 2 := by unfold TR_ at hT; first | exact hT.1.2.1 | exact hT.2.1.2.1 | exact hT.2.2.2.1
  obtain ⟨q, hq⟩ := i_nat (show 0 ≤ a 0 1 by omega)
  refine V_aload_n (pc := 0) dX6_undo_0 rfl rfl ?_
  refine V_iload_n (pc := 1) dX6_undo_1 rfl rfl ?_
  refine V_callV (pc := 2) (as := [_]) (rest := []) dX6_undo_2 ⟨kX6_74, iX6_textAt, by decide, by decide⟩ rc_0 rfl rfl (Nat.le_of_ble_eq_true rfl) (Nat.le_of_ble_eq_true rfl) ?_
  refine ct_X6_textAt_3 ?_
  show V_ _ _ _ _ _ _ [_] _
  refine V_astore_n (pc := 5) dX6_undo_5 rfl (by decide) rfl ?_
  show V_ _ _ _ _ _ [_, _, _] _ _
  refine V_aload_n (pc := 6) dX6_undo_6 rfl rfl ?_
  refine V_ifnonnull (tgt := 13) (pc := 7) dX6_undo_7 (by decide) (fun _ _ => ?_) (fun z => by cases z)
  refine V_aload_n (pc := 13) dX6_undo_13 rfl rfl ?_
  refine V_geti (pc := 14) dX6_undo_14 fX6_92 rfl gg_3 rfl (fun r14 => ?_)
  rw [e1] at r14 ⊢
  refine V_if_ne (tgt := 23) (pc := 17) dX6_undo_17 (by decide) (by first | assumption | decide | omega | exact ba_rg hR | exact b2_rg) (fun h17 => ?_) (fun h17 => ?_)
  · skip
    have e : nx_undo a 1 = ((q : Int) - 1, ms_ a 0 1 ((q : Int) - 1)) := by
      unfold nx_undo
      rw [if_neg (by omega), show ((1 : Int)).toNat = 1 from rfl, if_neg (show ¬ a 0 1 = 0 from h17), hq]
    refine V_aload_n (pc := 23) dX6_undo_23 rfl rfl ?_
    refine V_dup (pc := 24) dX6_undo_24 rfl ?_
    refine V_geti (pc := 25) dX6_undo_25 fX6_92 rfl gg_3 rfl (fun r25 => ?_)
    rw [e1, hq] at r25 ⊢
    refine V_iconst (pc := 28) dX6_undo_28 ?_
    refine V_isub (pc := 29) dX6_undo_29 ?_
    refine V_puti (pc := 30) dX6_undo_30 fX6_92 rfl gg_3 rfl pq_5_3 rfl rfl (by constructor <;> omega) ?_
    refine V_aload_n (pc := 33) dX6_undo_33 rfl rfl ?_
    refine V_callV (pc := 34) (as := []) (rest := []) dX6_undo_34 ⟨kX6_89, iX6_settle, by decide, by decide⟩ rc_0 rfl rfl (Nat.le_of_ble_eq_true rfl) (Nat.le_of_ble_eq_true rfl) ?_
    have hcp : CP_ (ms_ a 0 1 ((q : Int) - 1)) (ms_ σ 3 3 ((q : Int) - 1)) := by
      refine h.1.text (hA.text (fun k hk => by rw [ms_rw (by omega)]) ?_ ?_ ?_ (hA.2.2.2.2.2.2.2.ms (by constructor <;> omega))) (fun k hk => by rw [ms_rw (by omega)]) (fun k hk => by rw [ms_rw (by omega)]) ?_ ⟨?_, ?_⟩
      · simp [ms_]; omega
      · rw [ms_rw (by decide), ms_rw (by decide), ms_rw (by decide)]; exact hb2
      · rw [ms_rw (by decide)]; exact hA.2.2.1
      · unfold TR_ at hT ⊢
        obtain ⟨⟨y1, y2, y3⟩, ⟨y4, y5, y6⟩, y7, y8, y9⟩ := hT
        refine ⟨⟨?_, ?_, ?_⟩, ⟨?_, ?_, ?_⟩, ?_, ?_, ?_⟩ <;> (try simp only [ms_rw, ne_eq, Nat.reduceEqDiff, not_false_eq_true, ms_eq]) <;> first | rfl | assumption | (simp [ms_]; assumption)
      · rw [ms_rw (by decide), ms_rw (by decide)]; exact hs.1
      · rw [ms_rw (by decide)]
    refine ct_X6_settle hcp (fun σ1 hB1 hB2 => ?_)
    show V_ _ _ _ _ _ _ [] _
    refine V_aload_n (pc := 37) dX6_undo_37 rfl rfl ?_
    refine V_geti (pc := 38) dX6_undo_38 fX6_92 rfl gg_3 rfl (fun r38 => ?_)
    rw [show σ1 3 3 = (q : Int) - 1 from by have z := hB1.1.2.1; unfold TR_ at z; first | (rw [z.1.1]; simp [ms_]) | (rw [z.2.1.1]; simp [ms_]) | (rw [z.2.2.1]; simp [ms_])] at r38 ⊢
    refine V_ireturn (pc := 41) dX6_undo_41 rfl rfl (fun hR => ?_)
    have h2 := hK σ1 (by rw [e]; exact hB1) ((Fm_.rf.ms (by decide)).tr hB2)
    rw [e] at h2
    exact h2
  · skip
    have e : nx_undo a 1 = (-3, a) := by unfold nx_undo; rw [if_neg (by omega), show ((1 : Int)).toNat = 1 from rfl, if_pos (show a 0 1 = 0 from h17)]
    refine V_bipush (pc := 20) dX6_undo_20 (by decide) ?_
    refine V_ireturn (pc := 22) dX6_undo_22 rfl rfl (fun hR => ?_)
    have h2 := hK σ (by rw [e]; exact h) Fm_.rf
    rw [e] at h2
    exact h2
theorem ct_X6_undo_5 (h : CR_ a σ) (hK : ∀ σ1, CR_ (nx_undo a 2).2 σ1 → Fm_ σ σ1 → post (some (vi_ (nx_undo a 2).1)) σ1) : V_ l D mX6_undo (CM_ D mX6_undo post) 0 [some (vr_ 0), some (vi_ 2), none] [] σ := by
  have hA := h.1.1
  have hT := h.1.2.1
  have hs := h.1.2.2.1
  have h0 := hA.1
  have hb2 := hA.2.1
  have e1 : σ 5 3 = a 0 2 := by unfold TR_ at hT; first | exact hT.1.1 | exact hT.2.1.1 | exact hT.2.2.1
  have e2 : σ 6 = a 3 := by unfold TR_ at hT; first | exact hT.1.2.1 | exact hT.2.1.2.1 | exact hT.2.2.2.1
  obtain ⟨q, hq⟩ := i_nat (show 0 ≤ a 0 2 by omega)
  refine V_aload_n (pc := 0) dX6_undo_0 rfl rfl ?_
  refine V_iload_n (pc := 1) dX6_undo_1 rfl rfl ?_
  refine V_callV (pc := 2) (as := [_]) (rest := []) dX6_undo_2 ⟨kX6_74, iX6_textAt, by decide, by decide⟩ rc_0 rfl rfl (Nat.le_of_ble_eq_true rfl) (Nat.le_of_ble_eq_true rfl) ?_
  refine ct_X6_textAt_5 ?_
  show V_ _ _ _ _ _ _ [_] _
  refine V_astore_n (pc := 5) dX6_undo_5 rfl (by decide) rfl ?_
  show V_ _ _ _ _ _ [_, _, _] _ _
  refine V_aload_n (pc := 6) dX6_undo_6 rfl rfl ?_
  refine V_ifnonnull (tgt := 13) (pc := 7) dX6_undo_7 (by decide) (fun _ _ => ?_) (fun z => by cases z)
  refine V_aload_n (pc := 13) dX6_undo_13 rfl rfl ?_
  refine V_geti (pc := 14) dX6_undo_14 fX6_92 rfl gg_5 rfl (fun r14 => ?_)
  rw [e1] at r14 ⊢
  refine V_if_ne (tgt := 23) (pc := 17) dX6_undo_17 (by decide) (by first | assumption | decide | omega | exact ba_rg hR | exact b2_rg) (fun h17 => ?_) (fun h17 => ?_)
  · skip
    have e : nx_undo a 2 = ((q : Int) - 1, ms_ a 0 2 ((q : Int) - 1)) := by
      unfold nx_undo
      rw [if_neg (by omega), show ((2 : Int)).toNat = 2 from rfl, if_neg (show ¬ a 0 2 = 0 from h17), hq]
    refine V_aload_n (pc := 23) dX6_undo_23 rfl rfl ?_
    refine V_dup (pc := 24) dX6_undo_24 rfl ?_
    refine V_geti (pc := 25) dX6_undo_25 fX6_92 rfl gg_5 rfl (fun r25 => ?_)
    rw [e1, hq] at r25 ⊢
    refine V_iconst (pc := 28) dX6_undo_28 ?_
    refine V_isub (pc := 29) dX6_undo_29 ?_
    refine V_puti (pc := 30) dX6_undo_30 fX6_92 rfl gg_5 rfl pq_5_3 rfl rfl (by constructor <;> omega) ?_
    refine V_aload_n (pc := 33) dX6_undo_33 rfl rfl ?_
    refine V_callV (pc := 34) (as := []) (rest := []) dX6_undo_34 ⟨kX6_89, iX6_settle, by decide, by decide⟩ rc_0 rfl rfl (Nat.le_of_ble_eq_true rfl) (Nat.le_of_ble_eq_true rfl) ?_
    have hcp : CP_ (ms_ a 0 2 ((q : Int) - 1)) (ms_ σ 5 3 ((q : Int) - 1)) := by
      refine h.1.text (hA.text (fun k hk => by rw [ms_rw (by omega)]) ?_ ?_ ?_ (hA.2.2.2.2.2.2.2.ms (by constructor <;> omega))) (fun k hk => by rw [ms_rw (by omega)]) (fun k hk => by rw [ms_rw (by omega)]) ?_ ⟨?_, ?_⟩
      · simp [ms_]; omega
      · rw [ms_rw (by decide), ms_rw (by decide), ms_rw (by decide)]; exact hb2
      · rw [ms_rw (by decide)]; exact hA.2.2.1
      · unfold TR_ at hT ⊢
        obtain ⟨⟨y1, y2, y3⟩, ⟨y4, y5, y6⟩, y7, y8, y9⟩ := hT
        refine ⟨⟨?_, ?_, ?_⟩, ⟨?_, ?_, ?_⟩, ?_, ?_, ?_⟩ <;> (try simp only [ms_rw, ne_eq, Nat.reduceEqDiff, not_false_eq_true, ms_eq]) <;> first | rfl | assumption | (simp [ms_]; assumption)
      · rw [ms_rw (by decide), ms_rw (by decide)]; exact hs.1
      · rw [ms_rw (by decide)]
    refine ct_X6_settle hcp (fun σ1 hB1 hB2 => ?_)
    show V_ _ _ _ _ _ _ [] _
    refine V_aload_n (pc := 37) dX6_undo_37 rfl rfl ?_
    refine V_geti (pc := 38) dX6_undo_38 fX6_92 rfl gg_5 rfl (fun r38 => ?_)
    rw [show σ1 5 3 = (q : Int) - 1 from by have z := hB1.1.2.1; unfold TR_ at z; first | (rw [z.1.1]; simp [ms_]) | (rw [z.2.1.1]; simp [ms_]) | (rw [z.2.2.1]; simp [ms_])] at r38 ⊢
    refine V_ireturn (pc := 41) dX6_undo_41 rfl rfl (fun hR => ?_)
    have h2 := hK σ1 (by rw [e]; exact hB1) ((Fm_.rf.ms (by decide)).tr hB2)
    rw [e] at h2
    exact h2
  · skip
    have e : nx_undo a 2 = (-3, a) := by unfold nx_undo; rw [if_neg (by omega), show ((2 : Int)).toNat = 2 from rfl, if_pos (show a 0 2 = 0 from h17)]
    refine V_bipush (pc := 20) dX6_undo_20 (by decide) ?_
    refine V_ireturn (pc := 22) dX6_undo_22 rfl rfl (fun hR => ?_)
    have h2 := hK σ (by rw [e]; exact h) Fm_.rf
    rw [e] at h2
    exact h2
theorem ct_X6_undo {t : Int} (ht : Rg_ t) (h : CR_ a σ) (hK : ∀ σ1, CR_ (nx_undo a t).2 σ1 → Fm_ σ σ1 → post (some (vi_ (nx_undo a t).1)) σ1) : V_ l D mX6_undo (CM_ D mX6_undo post) 0 [some (vr_ 0), some (vi_ t), none] [] σ := by
  by_cases c0 : t = 0
  · subst c0; exact ct_X6_undo_1 h hK
  by_cases c1 : t = 1
  · subst c1; exact ct_X6_undo_3 h hK
  by_cases c2 : t = 2
  · subst c2; exact ct_X6_undo_5 h hK
  have e : nx_undo a t = (-2, a) := by unfold nx_undo; rw [if_pos (by omega)]
  refine V_aload_n (pc := 0) dX6_undo_0 rfl rfl ?_
  refine V_iload_n (pc := 1) dX6_undo_1 rfl rfl ?_
  refine V_callV (pc := 2) (as := [_]) (rest := []) dX6_undo_2 ⟨kX6_74, iX6_textAt, by decide, by decide⟩ rc_0 rfl rfl (Nat.le_of_ble_eq_true rfl) (Nat.le_of_ble_eq_true rfl) ?_
  refine ct_X6_textAt_n ht (by omega) ?_
  show V_ _ _ _ _ _ _ [_] _
  refine V_astore_n (pc := 5) dX6_undo_5 rfl (by decide) rfl ?_
  show V_ _ _ _ _ _ [_, _, _] _ _
  refine V_aload_n (pc := 6) dX6_undo_6 rfl rfl ?_
  refine V_ifnonnull (tgt := 13) (pc := 7) dX6_undo_7 (by decide) (fun _ z => by cases z) (fun _ => ?_)
  refine V_bipush (pc := 10) dX6_undo_10 (by decide) ?_
  refine V_ireturn (pc := 12) dX6_undo_12 rfl rfl (fun hR => ?_)
  have h2 := hK σ (by rw [e]; exact h) Fm_.rf
  rw [e] at h2
  exact h2
theorem ct_X6_fault_1 (h : CR_ a σ) (hK : ∀ σ1, CR_ a σ1 → Fm_ σ σ1 → post (some (vi_ (an_fault a 0))) σ1) : V_ l D mX6_fault (CM_ D mX6_fault post) 0 [some (vr_ 0), some (vi_ 0), none] [] σ := by
  have hT := h.1.2.1
  unfold TR_ at hT
  have h0 := h.1.1.1
  have e1 : σ 1 3 = a 0 0 := by first | exact hT.1.1 | exact hT.2.1.1 | exact hT.2.2.1
  have e2 : σ 2 = a 1 := by first | exact hT.1.2.1 | exact hT.2.1.2.1 | exact hT.2.2.2.1
  have e3 : σ 1 1 = 4 := by first | exact hT.1.2.2 | exact hT.2.1.2.2 | exact hT.2.2.2.2
  refine V_aload_n (pc := 0) dX6_fault_0 rfl rfl ?_
  refine V_iload_n (pc := 1) dX6_fault_1 rfl rfl ?_
  refine V_callV (pc := 2) (as := [_]) (rest := []) dX6_fault_2 ⟨kX6_74, iX6_textAt, by decide, by decide⟩ rc_0 rfl rfl (Nat.le_of_ble_eq_true rfl) (Nat.le_of_ble_eq_true rfl) ?_
  refine ct_X6_textAt_1 ?_
  show V_ _ _ _ _ _ _ [_] _
  refine V_astore_n (pc := 5) dX6_fault_5 rfl (by decide) rfl ?_
  show V_ _ _ _ _ _ [_, _, _] _ _
  refine V_aload_n (pc := 6) dX6_fault_6 rfl rfl ?_
  refine V_ifnonnull (tgt := 15) (pc := 7) dX6_fault_7 (by decide) (fun _ _ => ?_) (fun z => by cases z)
  refine V_aload_n (pc := 15) dX6_fault_15 rfl rfl ?_
  refine V_callV (pc := 16) (as := []) (rest := []) dX6_fault_16 ⟨kX6_96, iX5_faultPlace, by decide, by decide⟩ rc_1 rfl rfl (Nat.le_of_ble_eq_true rfl) (Nat.le_of_ble_eq_true rfl) ?_
  refine ct_X5_faultPlace_1 e3 (by omega) ?_
  rw [e1, e2]
  show V_ _ _ _ _ _ _ [_] _
  refine V_ireturn (pc := 19) dX6_fault_19 rfl rfl (fun hR => ?_)
  have h2 := hK σ h Fm_.rf
  rw [show an_fault a 0 = fa_ 0 (a 0 0) (a 1) from rfl] at h2
  exact h2
theorem ct_X6_fault_3 (h : CR_ a σ) (hK : ∀ σ1, CR_ a σ1 → Fm_ σ σ1 → post (some (vi_ (an_fault a 1))) σ1) : V_ l D mX6_fault (CM_ D mX6_fault post) 0 [some (vr_ 0), some (vi_ 1), none] [] σ := by
  have hT := h.1.2.1
  unfold TR_ at hT
  have h0 := h.1.1.1
  have e1 : σ 3 3 = a 0 1 := by first | exact hT.1.1 | exact hT.2.1.1 | exact hT.2.2.1
  have e2 : σ 4 = a 2 := by first | exact hT.1.2.1 | exact hT.2.1.2.1 | exact hT.2.2.2.1
  have e3 : σ 3 1 = 5 := by first | exact hT.1.2.2 | exact hT.2.1.2.2 | exact hT.2.2.2.2
  refine V_aload_n (pc := 0) dX6_fault_0 rfl rfl ?_
  refine V_iload_n (pc := 1) dX6_fault_1 rfl rfl ?_
  refine V_callV (pc := 2) (as := [_]) (rest := []) dX6_fault_2 ⟨kX6_74, iX6_textAt, by decide, by decide⟩ rc_0 rfl rfl (Nat.le_of_ble_eq_true rfl) (Nat.le_of_ble_eq_true rfl) ?_
  refine ct_X6_textAt_3 ?_
  show V_ _ _ _ _ _ _ [_] _
  refine V_astore_n (pc := 5) dX6_fault_5 rfl (by decide) rfl ?_
  show V_ _ _ _ _ _ [_, _, _] _ _
  refine V_aload_n (pc := 6) dX6_fault_6 rfl rfl ?_
  refine V_ifnonnull (tgt := 15) (pc := 7) dX6_fault_7 (by decide) (fun _ _ => ?_) (fun z => by cases z)
  refine V_aload_n (pc := 15) dX6_fault_15 rfl rfl ?_
  refine V_callV (pc := 16) (as := []) (rest := []) dX6_fault_16 ⟨kX6_96, iX5_faultPlace, by decide, by decide⟩ rc_3 rfl rfl (Nat.le_of_ble_eq_true rfl) (Nat.le_of_ble_eq_true rfl) ?_
  refine ct_X5_faultPlace_3 e3 (by omega) ?_
  rw [e1, e2]
  show V_ _ _ _ _ _ _ [_] _
  refine V_ireturn (pc := 19) dX6_fault_19 rfl rfl (fun hR => ?_)
  have h2 := hK σ h Fm_.rf
  rw [show an_fault a 1 = fa_ 1 (a 0 1) (a 2) from rfl] at h2
  exact h2
theorem ct_X6_fault_5 (h : CR_ a σ) (hK : ∀ σ1, CR_ a σ1 → Fm_ σ σ1 → post (some (vi_ (an_fault a 2))) σ1) : V_ l D mX6_fault (CM_ D mX6_fault post) 0 [some (vr_ 0), some (vi_ 2), none] [] σ := by
  have hT := h.1.2.1
  unfold TR_ at hT
  have h0 := h.1.1.1
  have e1 : σ 5 3 = a 0 2 := by first | exact hT.1.1 | exact hT.2.1.1 | exact hT.2.2.1
  have e2 : σ 6 = a 3 := by first | exact hT.1.2.1 | exact hT.2.1.2.1 | exact hT.2.2.2.1
  have e3 : σ 5 1 = 5 := by first | exact hT.1.2.2 | exact hT.2.1.2.2 | exact hT.2.2.2.2
  refine V_aload_n (pc := 0) dX6_fault_0 rfl rfl ?_
  refine V_iload_n (pc := 1) dX6_fault_1 rfl rfl ?_
  refine V_callV (pc := 2) (as := [_]) (rest := []) dX6_fault_2 ⟨kX6_74, iX6_textAt, by decide, by decide⟩ rc_0 rfl rfl (Nat.le_of_ble_eq_true rfl) (Nat.le_of_ble_eq_true rfl) ?_
  refine ct_X6_textAt_5 ?_
  show V_ _ _ _ _ _ _ [_] _
  refine V_astore_n (pc := 5) dX6_fault_5 rfl (by decide) rfl ?_
  show V_ _ _ _ _ _ [_, _, _] _ _
  refine V_aload_n (pc := 6) dX6_fault_6 rfl rfl ?_
  refine V_ifnonnull (tgt := 15) (pc := 7) dX6_fault_7 (by decide) (fun _ _ => ?_) (fun z => by cases z)
  refine V_aload_n (pc := 15) dX6_fault_15 rfl rfl ?_
  refine V_callV (pc := 16) (as := []) (rest := []) dX6_fault_16 ⟨kX6_96, iX5_faultPlace, by decide, by decide⟩ rc_5 rfl rfl (Nat.le_of_ble_eq_true rfl) (Nat.le_of_ble_eq_true rfl) ?_
  refine ct_X5_faultPlace_5 e3 (by omega) ?_
  rw [e1, e2]
  show V_ _ _ _ _ _ _ [_] _
  refine V_ireturn (pc := 19) dX6_fault_19 rfl rfl (fun hR => ?_)
  have h2 := hK σ h Fm_.rf
  rw [show an_fault a 2 = fa_ 2 (a 0 2) (a 3) from rfl] at h2
  exact h2
theorem ct_X6_fault {t : Int} (ht : Rg_ t) (h : CR_ a σ) (hK : ∀ σ1, CR_ a σ1 → Fm_ σ σ1 → post (some (vi_ (an_fault a t))) σ1) : V_ l D mX6_fault (CM_ D mX6_fault post) 0 [some (vr_ 0), some (vi_ t), none] [] σ := by
  by_cases c0 : t = 0
  · subst c0; exact ct_X6_fault_1 h hK
  by_cases c1 : t = 1
  · subst c1; exact ct_X6_fault_3 h hK
  by_cases c2 : t = 2
  · subst c2; exact ct_X6_fault_5 h hK
  have e : an_fault a t = -2 := by unfold an_fault; rw [if_pos (by omega)]
  refine V_aload_n (pc := 0) dX6_fault_0 rfl rfl ?_
  refine V_iload_n (pc := 1) dX6_fault_1 rfl rfl ?_
  refine V_callV (pc := 2) (as := [_]) (rest := []) dX6_fault_2 ⟨kX6_74, iX6_textAt, by decide, by decide⟩ rc_0 rfl rfl (Nat.le_of_ble_eq_true rfl) (Nat.le_of_ble_eq_true rfl) ?_
  refine ct_X6_textAt_n ht (by omega) ?_
  show V_ _ _ _ _ _ _ [_] _
  refine V_astore_n (pc := 5) dX6_fault_5 rfl (by decide) rfl ?_
  show V_ _ _ _ _ _ [_, _, _] _ _
  refine V_aload_n (pc := 6) dX6_fault_6 rfl rfl ?_
  refine V_ifnonnull (tgt := 15) (pc := 7) dX6_fault_7 (by decide) (fun _ z => by cases z) (fun _ => ?_)
  refine V_bipush (pc := 10) dX6_fault_10 (by decide) ?_
  refine V_goto (tgt := 19) (pc := 12) dX6_fault_12 (by decide) ?_
  refine V_ireturn (pc := 19) dX6_fault_19 rfl rfl (fun hR => ?_)
  have h2 := hK σ h Fm_.rf
  rw [e] at h2
  exact h2
end
