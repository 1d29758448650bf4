/-! ## class DrownedNamesModel: helpers, reading of texts -/
theorem lcmp_lt {a b : Int} : lcmp_ a b < 0 ↔ a < b := by unfold lcmp_; (repeat' split) <;> omega
theorem lcmp_gt {a b : Int} : 0 < lcmp_ a b ↔ b < a := by unfold lcmp_; (repeat' split) <;> omega
theorem lcmp_0 {a b : Int} : lcmp_ a b = 0 ↔ a = b := by unfold lcmp_; (repeat' split) <;> omega
theorem lcmp_rg {a b : Int} : Rg_ (lcmp_ a b) := by unfold lcmp_; (repeat' split) <;> decide
theorem ms_id {σ : Mm_} {k j : Nat} {x : Int} (h : σ k j = x) : ms_ σ k j x = σ := by
  subst h
  funext a b
  unfold ms_
  split
  · rename_i c; rw [c.1, c.2]
  · rfl
/-- the model's text t -/
def MT_ (t : Nat) (L : Int) (b : Nat → Int) (σ : Mm_) : Prop := σ 44 t = L ∧ ∀ i, i < 60 → σ 43 (60 * t + i) = b i
theorem MT_.cg {t : Nat} {L : Int} {b : Nat → Int} {σ σ' : Mm_} (h : MT_ t L b σ) (e : σ' 44 = σ 44) (e2 : σ' 43 = σ 43) : MT_ t L b σ' := ⟨by rw [e]; exact h.1, fun i hi => by rw [e2]; exact h.2 i hi⟩
theorem MT_.ms {t k j : Nat} {x : Int} {L : Int} {b : Nat → Int} {σ : Mm_} (h : MT_ t L b σ) (hk : k ≠ 44) (hk2 : k ≠ 43) : MT_ t L b (ms_ σ k j x) := h.cg (ms_rw (fun z => hk z.symm)) (ms_rw (fun z => hk2 z.symm))
theorem ox_0_0 {L : Int} {b : Nat → Int} {m : Nat} : ok_ 0 L b (m * 4) = true ↔ (48 ≤ ba_ L b ((m * 4 : Nat) : Int) ∧ ba_ L b ((m * 4 : Nat) : Int) ≤ 57) := by
  unfold ok_
  have e1 : (m * 4) % sp_ 0 = 0 := by show (m * 4) % 4 = 0; omega
  rw [e1]
  rw [if_neg (by decide), show pt_ 0 0 = 57 from rfl]
  unfold oc_
  simp
theorem ox_0_1 {L : Int} {b : Nat → Int} {m : Nat} : ok_ 0 L b (m * 4 + 1) = true ↔ ((48 ≤ ba_ L b ((m * 4 + 1 : Nat) : Int) ∧ ba_ L b ((m * 4 + 1 : Nat) : Int) ≤ 57) ∧ (ba_ L b ((m * 4 + 1 : Nat) : Int) ≠ 48 ∨ ba_ L b ((m * 4 : Nat) : Int) ≠ 48)) := by
  unfold ok_
  have e1 : (m * 4 + 1) % sp_ 0 = 1 := by show (m * 4 + 1) % 4 = 1; omega
  rw [e1]
  rw [if_neg (by decide), show pt_ 0 1 = 49 from rfl]
  unfold oc_
  rw [show (((m * 4 + 1 : Nat) : Int) - 1) = ((m * 4 : Nat) : Int) by omega]
  simp
theorem ox_0_2 {L : Int} {b : Nat → Int} {m : Nat} : ok_ 0 L b (m * 4 + 2) = true ↔ (48 ≤ ba_ L b ((m * 4 + 2 : Nat) : Int) ∧ ba_ L b ((m * 4 + 2 : Nat) : Int) ≤ 57) := by
  unfold ok_
  have e1 : (m * 4 + 2) % sp_ 0 = 2 := by show (m * 4 + 2) % 4 = 2; omega
  rw [e1]
  rw [if_neg (by decide), show pt_ 0 2 = 57 from rfl]
  unfold oc_
  rw [show (((m * 4 + 2 : Nat) : Int) - 1) = ((m * 4 + 1 : Nat) : Int) by omega]
  simp
theorem ox_0_3 {L : Int} {b : Nat → Int} {m : Nat} : ok_ 0 L b (m * 4 + 3) = true ↔ (ba_ L b ((m * 4 + 3 : Nat) : Int) = 59) := by
  unfold ok_
  have e1 : (m * 4 + 3) % sp_ 0 = 3 := by show (m * 4 + 3) % 4 = 3; omega
  rw [e1]
  rw [if_pos (show 3 = sp_ 0 - 1 from rfl)]
  simp
theorem ox_1_0 {L : Int} {b : Nat → Int} {m : Nat} : ok_ 1 L b (m * 5) = true ↔ (48 ≤ ba_ L b ((m * 5 : Nat) : Int) ∧ ba_ L b ((m * 5 : Nat) : Int) ≤ 57) := by
  unfold ok_
  have e1 : (m * 5) % sp_ 1 = 0 := by show (m * 5) % 5 = 0; omega
  rw [e1]
  rw [if_neg (by decide), show pt_ 1 0 = 57 from rfl]
  unfold oc_
  simp
theorem ox_1_1 {L : Int} {b : Nat → Int} {m : Nat} : ok_ 1 L b (m * 5 + 1) = true ↔ (48 ≤ ba_ L b ((m * 5 + 1 : Nat) : Int) ∧ ba_ L b ((m * 5 + 1 : Nat) : Int) ≤ 57) := by
  unfold ok_
  have e1 : (m * 5 + 1) % sp_ 1 = 1 := by show (m * 5 + 1) % 5 = 1; omega
  rw [e1]
  rw [if_neg (by decide), show pt_ 1 1 = 57 from rfl]
  unfold oc_
  rw [show (((m * 5 + 1 : Nat) : Int) - 1) = ((m * 5 : Nat) : Int) by omega]
  simp
theorem ox_1_2 {L : Int} {b : Nat → Int} {m : Nat} : ok_ 1 L b (m * 5 + 2) = true ↔ (ba_ L b ((m * 5 + 2 : Nat) : Int) = 108 ∨ ba_ L b ((m * 5 + 2 : Nat) : Int) = 100) := by
  unfold ok_
  have e1 : (m * 5 + 2) % sp_ 1 = 2 := by show (m * 5 + 2) % 5 = 2; omega
  rw [e1]
  rw [if_neg (by decide), show pt_ 1 2 = 108 from rfl]
  unfold oc_
  rw [show (((m * 5 + 2 : Nat) : Int) - 1) = ((m * 5 + 1 : Nat) : Int) by omega]
  simp
theorem ox_1_3 {L : Int} {b : Nat → Int} {m : Nat} : ok_ 1 L b (m * 5 + 3) = true ↔ (ba_ L b ((m * 5 + 3 : Nat) : Int) = 46 ∨ (97 ≤ ba_ L b ((m * 5 + 3 : Nat) : Int) ∧ ba_ L b ((m * 5 + 3 : Nat) : Int) ≤ 104)) := by
  unfold ok_
  have e1 : (m * 5 + 3) % sp_ 1 = 3 := by show (m * 5 + 3) % 5 = 3; omega
  rw [e1]
  rw [if_neg (by decide), show pt_ 1 3 = 46 from rfl]
  unfold oc_
  rw [show (((m * 5 + 3 : Nat) : Int) - 1) = ((m * 5 + 2 : Nat) : Int) by omega]
  simp
theorem ox_1_4 {L : Int} {b : Nat → Int} {m : Nat} : ok_ 1 L b (m * 5 + 4) = true ↔ (ba_ L b ((m * 5 + 4 : Nat) : Int) = 59) := by
  unfold ok_
  have e1 : (m * 5 + 4) % sp_ 1 = 4 := by show (m * 5 + 4) % 5 = 4; omega
  rw [e1]
  rw [if_pos (show 4 = sp_ 1 - 1 from rfl)]
  simp
theorem ox_2_0 {L : Int} {b : Nat → Int} {m : Nat} : ok_ 2 L b (m * 5) = true ↔ (48 ≤ ba_ L b ((m * 5 : Nat) : Int) ∧ ba_ L b ((m * 5 : Nat) : Int) ≤ 53) := by
  unfold ok_
  have e1 : (m * 5) % sp_ 2 = 0 := by show (m * 5) % 5 = 0; omega
  rw [e1]
  rw [if_neg (by decide), show pt_ 2 0 = 53 from rfl]
  unfold oc_
  simp
theorem ox_2_1 {L : Int} {b : Nat → Int} {m : Nat} : ok_ 2 L b (m * 5 + 1) = true ↔ (97 ≤ ba_ L b ((m * 5 + 1 : Nat) : Int) ∧ ba_ L b ((m * 5 + 1 : Nat) : Int) ≤ 104) := by
  unfold ok_
  have e1 : (m * 5 + 1) % sp_ 2 = 1 := by show (m * 5 + 1) % 5 = 1; omega
  rw [e1]
  rw [if_neg (by decide), show pt_ 2 1 = 97 from rfl]
  unfold oc_
  rw [show (((m * 5 + 1 : Nat) : Int) - 1) = ((m * 5 : Nat) : Int) by omega]
  simp
theorem ox_2_2 {L : Int} {b : Nat → Int} {m : Nat} : ok_ 2 L b (m * 5 + 2) = true ↔ (48 ≤ ba_ L b ((m * 5 + 2 : Nat) : Int) ∧ ba_ L b ((m * 5 + 2 : Nat) : Int) ≤ 57) := by
  unfold ok_
  have e1 : (m * 5 + 2) % sp_ 2 = 2 := by show (m * 5 + 2) % 5 = 2; omega
  rw [e1]
  rw [if_neg (by decide), show pt_ 2 2 = 57 from rfl]
  unfold oc_
  rw [show (((m * 5 + 2 : Nat) : Int) - 1) = ((m * 5 + 1 : Nat) : Int) by omega]
  simp
theorem ox_2_3 {L : Int} {b : Nat → Int} {m : Nat} : ok_ 2 L b (m * 5 + 3) = true ↔ ((48 ≤ ba_ L b ((m * 5 + 3 : Nat) : Int) ∧ ba_ L b ((m * 5 + 3 : Nat) : Int) ≤ 57) ∧ (ba_ L b ((m * 5 + 3 : Nat) : Int) ≠ 48 ∨ ba_ L b ((m * 5 + 2 : Nat) : Int) ≠ 48)) := by
  unfold ok_
  have e1 : (m * 5 + 3) % sp_ 2 = 3 := by show (m * 5 + 3) % 5 = 3; omega
  rw [e1]
  rw [if_neg (by decide), show pt_ 2 3 = 49 from rfl]
  unfold oc_
  rw [show (((m * 5 + 3 : Nat) : Int) - 1) = ((m * 5 + 2 : Nat) : Int) by omega]
  simp
theorem ox_2_4 {L : Int} {b : Nat → Int} {m : Nat} : ok_ 2 L b (m * 5 + 4) = true ↔ (ba_ L b ((m * 5 + 4 : Nat) : Int) = 59) := by
  unfold ok_
  have e1 : (m * 5 + 4) % sp_ 2 = 4 := by show (m * 5 + 4) % 5 = 4; omega
  rw [e1]
  rw [if_pos (show 4 = sp_ 2 - 1 from rfl)]
  simp
section
variable {l : Launch} {D : Dt_} {σ : Mm_} {post : Option Av_ → Mm_ → Prop}
theorem ct_X7_in {x y z : Int} (hx : Rl_ x) (hy : Rl_ y) (hz : Rl_ z) (h : post (some (vi_ (b2_ (y ≤ x ∧ x ≤ z)))) σ) : V_ l D mX7_in (CM_ D mX7_in post) 0 [some (vl_ x), none, some (vl_ y), none, some (vl_ z), none] [] σ := by
  refine V_lload_n (pc := 0) dX7_in_0 rfl rfl ?_
  refine V_lload_n (pc := 1) dX7_in_1 rfl rfl ?_
  refine V_lcmp (pc := 2) dX7_in_2 (by assumption) (by assumption) ?_
  refine V_if_lt (tgt := 17) (pc := 3) dX7_in_3 (by decide) lcmp_rg (fun h3 => ?_) (fun h3 => ?_)
  · skip
    rw [lcmp_lt] at h3
    refine V_iconst (pc := 17) dX7_in_17 ?_
    refine V_ireturn (pc := 18) dX7_in_18 rfl rfl (fun hR => ?_)
    first | (rw [b2_t (by omega)] at h; exact h) | (rw [b2_f (by omega)] at h; exact h)
  · skip
    have h3 := Int.not_lt.mpr h3
    rw [lcmp_lt] at h3
    refine V_lload_n (pc := 6) dX7_in_6 rfl rfl ?_
    refine V_lload (pc := 7) dX7_in_7 rfl ?_
    refine V_lcmp (pc := 9) dX7_in_9 (by assumption) (by assumption) ?_
    refine V_if_gt (tgt := 17) (pc := 10) dX7_in_10 (by decide) lcmp_rg (fun h10 => ?_) (fun h10 => ?_)
    · skip
      rw [lcmp_gt] at h10
      refine V_iconst (pc := 17) dX7_in_17 ?_
      refine V_ireturn (pc := 18) dX7_in_18 rfl rfl (fun hR => ?_)
      first | (rw [b2_t (by omega)] at h; exact h) | (rw [b2_f (by omega)] at h; exact h)
    · skip
      have h10 := Int.not_lt.mpr h10
      rw [lcmp_gt] at h10
      refine V_iconst (pc := 13) dX7_in_13 ?_
      refine V_goto (tgt := 18) (pc := 14) dX7_in_14 (by decide) ?_
      refine V_ireturn (pc := 18) dX7_in_18 rfl rfl (fun hR => ?_)
      first | (rw [b2_t (by omega)] at h; exact h) | (rw [b2_f (by omega)] at h; exact h)
theorem ct_X7_isTwo {x : Int} (hx : Rg_ x) (h : post (some (vi_ (b2_ (0 ≤ x ∧ x ≤ 1)))) σ) : V_ l D mX7_isTwo (CM_ D mX7_isTwo post) 0 [some (vi_ x)] [] σ := by
  refine V_iload_n (pc := 0) dX7_isTwo_0 rfl rfl ?_
  refine V_i2l (pc := 1) dX7_isTwo_1 (by first | assumption | decide | omega | exact ba_rg hR | exact b2_rg) ?_
  refine V_lconst (z := 0) (pc := 2) dX7_isTwo_2 rfl ?_
  refine V_lconst (z := 1) (pc := 3) dX7_isTwo_3 rfl ?_
  refine V_callS (pc := 4) (as := [_, _, _]) (rest := []) dX7_isTwo_4 ⟨kX7_61, sX7_in, by decide, by decide⟩ rfl rfl (Nat.le_of_ble_eq_true rfl) (Nat.le_of_ble_eq_true rfl) ?_
  refine ct_X7_in (by constructor <;> omega) (by constructor <;> omega) (by constructor <;> omega) ?_
  show V_ _ _ _ _ _ _ [_] _
  refine V_ireturn (pc := 7) dX7_isTwo_7 rfl b2_nar (fun hR => ?_)
  exact h
theorem ct_X7_isSheet {x : Int} (hx : Rg_ x) (h : post (some (vi_ (b2_ (0 ≤ x ∧ x ≤ 3)))) σ) : V_ l D mX7_isSheet (CM_ D mX7_isSheet post) 0 [some (vi_ x)] [] σ := by
  refine V_iload_n (pc := 0) dX7_isSheet_0 rfl rfl ?_
  refine V_i2l (pc := 1) dX7_isSheet_1 (by first | assumption | decide | omega | exact ba_rg hR | exact b2_rg) ?_
  refine V_lconst (z := 0) (pc := 2) dX7_isSheet_2 rfl ?_
  refine V_ldc2 (v := (3)) (z := 3) (pc := 3) dX7_isSheet_3 (tb_in 829 (by decide +kernel) rfl) (by decide +kernel) ?_
  refine V_callS (pc := 6) (as := [_, _, _]) (rest := []) dX7_isSheet_6 ⟨kX7_61, sX7_in, by decide, by decide⟩ rfl rfl (Nat.le_of_ble_eq_true rfl) (Nat.le_of_ble_eq_true rfl) ?_
  refine ct_X7_in (by constructor <;> omega) (by constructor <;> omega) (by constructor <;> omega) ?_
  show V_ _ _ _ _ _ _ [_] _
  refine V_ireturn (pc := 9) dX7_isSheet_9 rfl b2_nar (fun hR => ?_)
  exact h
theorem ct_X7_isText {x : Int} (hx : Rg_ x) (h : post (some (vi_ (b2_ (0 ≤ x ∧ x ≤ 2)))) σ) : V_ l D mX7_isText (CM_ D mX7_isText post) 0 [some (vi_ x)] [] σ := by
  refine V_iload_n (pc := 0) dX7_isText_0 rfl rfl ?_
  refine V_i2l (pc := 1) dX7_isText_1 (by first | assumption | decide | omega | exact ba_rg hR | exact b2_rg) ?_
  refine V_lconst (z := 0) (pc := 2) dX7_isText_2 rfl ?_
  refine V_ldc2 (v := (2)) (z := 2) (pc := 3) dX7_isText_3 (tb_in 833 (by decide +kernel) rfl) (by decide +kernel) ?_
  refine V_callS (pc := 6) (as := [_, _, _]) (rest := []) dX7_isText_6 ⟨kX7_61, sX7_in, by decide, by decide⟩ rfl rfl (Nat.le_of_ble_eq_true rfl) (Nat.le_of_ble_eq_true rfl) ?_
  refine ct_X7_in (by constructor <;> omega) (by constructor <;> omega) (by constructor <;> omega) ?_
  show V_ _ _ _ _ _ _ [_] _
  refine V_ireturn (pc := 9) dX7_isText_9 rfl b2_nar (fun hR => ?_)
  exact h
theorem ct_X7_isYear {x : Int} (hx : Rg_ x) (h : post (some (vi_ (b2_ (0 ≤ x ∧ x ≤ 29)))) σ) : V_ l D mX7_isYear (CM_ D mX7_isYear post) 0 [some (vi_ x)] [] σ := by
  refine V_iload_n (pc := 0) dX7_isYear_0 rfl rfl ?_
  refine V_i2l (pc := 1) dX7_isYear_1 (by first | assumption | decide | omega | exact ba_rg hR | exact b2_rg) ?_
  refine V_lconst (z := 0) (pc := 2) dX7_isYear_2 rfl ?_
  refine V_ldc2 (v := (29)) (z := 29) (pc := 3) dX7_isYear_3 (tb_in 995 (by decide +kernel) rfl) (by decide +kernel) ?_
  refine V_callS (pc := 6) (as := [_, _, _]) (rest := []) dX7_isYear_6 ⟨kX7_61, sX7_in, by decide, by decide⟩ rfl rfl (Nat.le_of_ble_eq_true rfl) (Nat.le_of_ble_eq_true rfl) ?_
  refine ct_X7_in (by constructor <;> omega) (by constructor <;> omega) (by constructor <;> omega) ?_
  show V_ _ _ _ _ _ _ [_] _
  refine V_ireturn (pc := 9) dX7_isYear_9 rfl b2_nar (fun hR => ?_)
  exact h
theorem ct_X7_isShip {x n : Int} (hx : Rg_ x) (hn : σ 45 0 = n) (hn2 : 0 ≤ n ∧ n ≤ 12) (h : post (some (vi_ (b2_ (0 ≤ x ∧ x < n)))) σ) : V_ l D mX7_isShip (CM_ D mX7_isShip post) 0 [some (vr_ 38), some (vi_ x)] [] σ := by
  refine V_iload_n (pc := 0) dX7_isShip_0 rfl rfl ?_
  refine V_i2l (pc := 1) dX7_isShip_1 (by first | assumption | decide | omega | exact ba_rg hR | exact b2_rg) ?_
  refine V_lconst (z := 0) (pc := 2) dX7_isShip_2 rfl ?_
  refine V_aload_n (pc := 3) dX7_isShip_3 rfl rfl ?_
  refine V_getr (pc := 4) dX7_isShip_4 fX7_28 rfl gg_38 rfl ?_
  refine V_iconst (pc := 7) dX7_isShip_7 ?_
  refine V_iald (pc := 8) dX7_isShip_8 gg_45 (by decide) (by decide) (fun r8 => ?_)
  rw [show σ 45 (0 : Int).toNat = n from hn] at r8 ⊢
  refine V_iconst (pc := 9) dX7_isShip_9 ?_
  refine V_isub (pc := 10) dX7_isShip_10 ?_
  refine V_i2l (pc := 11) dX7_isShip_11 (by constructor <;> omega) ?_
  refine V_callS (pc := 12) (as := [_, _, _]) (rest := []) dX7_isShip_12 ⟨kX7_61, sX7_in, by decide, by decide⟩ rfl rfl (Nat.le_of_ble_eq_true rfl) (Nat.le_of_ble_eq_true rfl) ?_
  refine ct_X7_in (by constructor <;> omega) (by constructor <;> omega) (by constructor <;> omega) ?_
  show V_ _ _ _ _ _ _ [_] _
  refine V_ireturn (pc := 15) dX7_isShip_15 rfl b2_nar (fun hR => ?_)
  rw [b2_cg (q := 0 ≤ x ∧ x < n) (by omega)]; exact h
theorem ct_X7_isName {x n : Int} (hx : Rg_ x) (hn : σ 45 1 = n) (hn2 : 0 ≤ n ∧ n ≤ 12) (h : post (some (vi_ (b2_ (0 ≤ x ∧ x < n)))) σ) : V_ l D mX7_isName (CM_ D mX7_isName post) 0 [some (vr_ 38), some (vi_ x)] [] σ := by
  refine V_iload_n (pc := 0) dX7_isName_0 rfl rfl ?_
  refine V_i2l (pc := 1) dX7_isName_1 (by first | assumption | decide | omega | exact ba_rg hR | exact b2_rg) ?_
  refine V_lconst (z := 0) (pc := 2) dX7_isName_2 rfl ?_
  refine V_aload_n (pc := 3) dX7_isName_3 rfl rfl ?_
  refine V_getr (pc := 4) dX7_isName_4 fX7_28 rfl gg_38 rfl ?_
  refine V_iconst (pc := 7) dX7_isName_7 ?_
  refine V_iald (pc := 8) dX7_isName_8 gg_45 (by decide) (by decide) (fun r8 => ?_)
  rw [show σ 45 (1 : Int).toNat = n from hn] at r8 ⊢
  refine V_iconst (pc := 9) dX7_isName_9 ?_
  refine V_isub (pc := 10) dX7_isName_10 ?_
  refine V_i2l (pc := 11) dX7_isName_11 (by constructor <;> omega) ?_
  refine V_callS (pc := 12) (as := [_, _, _]) (rest := []) dX7_isName_12 ⟨kX7_61, sX7_in, by decide, by decide⟩ rfl rfl (Nat.le_of_ble_eq_true rfl) (Nat.le_of_ble_eq_true rfl) ?_
  refine ct_X7_in (by constructor <;> omega) (by constructor <;> omega) (by constructor <;> omega) ?_
  show V_ _ _ _ _ _ _ [_] _
  refine V_ireturn (pc := 15) dX7_isName_15 rfl b2_nar (fun hR => ?_)
  rw [b2_cg (q := 0 ≤ x ∧ x < n) (by omega)]; exact h
theorem ct_X7_isIn {s k : Int} (hs : 0 ≤ s ∧ s < 2147483648) (hk : 0 ≤ k ∧ k < 32) (h : post (some (vi_ (b2_ (bt_ s k = true)))) σ) : V_ l D mX7_isIn (CM_ D mX7_isIn post) 0 [some (vi_ s), some (vi_ k)] [] σ := by
  refine V_iload_n (pc := 0) dX7_isIn_0 rfl rfl ?_
  refine V_iload_n (pc := 1) dX7_isIn_1 rfl rfl ?_
  refine V_ishr (pc := 2) dX7_isIn_2 ?_
  refine V_iconst (pc := 3) dX7_isIn_3 ?_
  refine V_iand (pc := 4) dX7_isIn_4 ?_
  rw [bit_b2 hs hk]
  refine V_iconst (pc := 5) dX7_isIn_5 ?_
  refine V_icmp_ne (tgt := 13) (pc := 6) dX7_isIn_6 (by decide) (by first | assumption | decide | omega | exact ba_rg hR | exact b2_rg) (by first | assumption | decide | omega | exact ba_rg hR | exact b2_rg) (fun h6 => ?_) (fun h6 => ?_)
  · skip
    rw [b2_n1] at h6
    rw [b2_f h6] at h
    refine V_iconst (pc := 13) dX7_isIn_13 ?_
    refine V_ireturn (pc := 14) dX7_isIn_14 rfl rfl (fun hR => ?_)
    exact h
  · skip
    rw [b2_1] at h6
    rw [b2_t h6] at h
    refine V_iconst (pc := 9) dX7_isIn_9 ?_
    refine V_goto (tgt := 14) (pc := 10) dX7_isIn_10 (by decide) ?_
    refine V_ireturn (pc := 14) dX7_isIn_14 rfl rfl (fun hR => ?_)
    exact h
theorem ct_X7_lesser {x z : Int} (hx : Rg_ x) (hz : Rg_ z) (h : post (some (vi_ (if x < z then x else z))) σ) : V_ l D mX7_lesser (CM_ D mX7_lesser post) 0 [some (vi_ x), some (vi_ z)] [] σ := by
  refine V_iload_n (pc := 0) dX7_lesser_0 rfl rfl ?_
  refine V_iload_n (pc := 1) dX7_lesser_1 rfl rfl ?_
  refine V_icmp_ge (tgt := 9) (pc := 2) dX7_lesser_2 (by decide) (by first | assumption | decide | omega | exact ba_rg hR | exact b2_rg) (by first | assumption | decide | omega | exact ba_rg hR | exact b2_rg) (fun h2 => ?_) (fun h2 => ?_)
  · skip
    refine V_iload_n (pc := 9) dX7_lesser_9 rfl rfl ?_
    refine V_ireturn (pc := 10) dX7_lesser_10 rfl rfl (fun hR => ?_)
    first | (rw [if_pos (by omega)] at h; exact h) | (rw [if_neg (by omega)] at h; exact h)
  · skip
    refine V_iload_n (pc := 5) dX7_lesser_5 rfl rfl ?_
    refine V_goto (tgt := 10) (pc := 6) dX7_lesser_6 (by decide) ?_
    refine V_ireturn (pc := 10) dX7_lesser_10 rfl rfl (fun hR => ?_)
    first | (rw [if_pos (by omega)] at h; exact h) | (rw [if_neg (by omega)] at h; exact h)
theorem ct_X7_finds {f : Int} (hf : 1 ≤ f ∧ f ≤ 5) (h : post (some (vi_ (-10 - f))) (ms_ σ 38 4 f)) : V_ l D mX7_finds (CM_ D mX7_finds post) 0 [some (vr_ 38), some (vi_ f)] [] σ := by
  refine V_aload_n (pc := 0) dX7_finds_0 rfl rfl ?_
  refine V_iload_n (pc := 1) dX7_finds_1 rfl rfl ?_
  refine V_puti (pc := 2) dX7_finds_2 fX7_65 rfl gg_38 rfl pq_7_4 rfl rfl (by constructor <;> omega) ?_
  refine V_bipush (pc := 5) dX7_finds_5 (by decide) ?_
  refine V_iload_n (pc := 7) dX7_finds_7 rfl rfl ?_
  refine V_isub (pc := 8) dX7_finds_8 ?_
  refine V_ireturn (pc := 9) dX7_finds_9 rfl rfl (fun hR => ?_)
  exact h
theorem ct_X7_passes_0 {L : Int} {b : Nat → Int} {q : Nat} {x z : Int} (hT : MT_ 0 L b σ) (hL : 0 ≤ L ∧ L ≤ 23) (hq : σ 38 7 = (q : Int)) (hq2 : q ≤ 60) (hx : 1 ≤ x ∧ x ≤ 255) (hz : 1 ≤ z ∧ z ≤ 255) (h1 : x ≤ ba_ L b q ∧ ba_ L b q ≤ z → post (some (vi_ (ba_ L b q - x))) (ms_ σ 38 7 ((q : Int) + 1))) (h2 : ¬ (x ≤ ba_ L b q ∧ ba_ L b q ≤ z) → post (some (vi_ (-9))) σ) : V_ l D mX7_passes (CM_ D mX7_passes post) 0 [some (vr_ 38), some (vi_ 0), some (vi_ x), some (vi_ z), none] [] σ := by
  refine V_aload_n (pc := 0) dX7_passes_0 rfl rfl ?_
  refine V_geti (pc := 1) dX7_passes_1 fX7_94 rfl gg_38 rfl (fun r1 => ?_)
  rw [hq] at r1 ⊢
  refine V_aload_n (pc := 4) dX7_passes_4 rfl rfl ?_
  refine V_getr (pc := 5) dX7_passes_5 fX7_25 rfl gg_38 rfl ?_
  refine V_iload_n (pc := 8) dX7_passes_8 rfl rfl ?_
  refine V_iald (pc := 9) dX7_passes_9 gg_44 (by decide) (by decide) (fun r9 => ?_)
  rw [show σ 44 (0 : Int).toNat = L from hT.1] at r9 ⊢
  refine V_icmp_ge (tgt := 30) (pc := 10) dX7_passes_10 (by decide) (by first | assumption | decide | omega | exact ba_rg hR | exact b2_rg) (by first | assumption | decide | omega | exact ba_rg hR | exact b2_rg) (fun h10 => ?_) (fun h10 => ?_)
  · skip
    have hb0 : ba_ L b q = 0 := by unfold ba_; rw [if_neg (by omega)]
    refine V_iconst (pc := 30) dX7_passes_30 ?_
    refine V_istore (pc := 31) dX7_passes_31 (by decide) rfl ?_
    show V_ _ _ _ _ _ [_, _, _, _, _] _ _
    refine V_iload (pc := 33) dX7_passes_33 rfl ?_
    refine V_i2l (pc := 35) dX7_passes_35 (by constructor <;> omega) ?_
    refine V_iload_n (pc := 36) dX7_passes_36 rfl rfl ?_
    refine V_i2l (pc := 37) dX7_passes_37 (by first | assumption | decide | omega | exact ba_rg hR | exact b2_rg) ?_
    refine V_iload_n (pc := 38) dX7_passes_38 rfl rfl ?_
    refine V_i2l (pc := 39) dX7_passes_39 (by first | assumption | decide | omega | exact ba_rg hR | exact b2_rg) ?_
    refine V_callS (pc := 40) (as := [_, _, _]) (rest := []) dX7_passes_40 ⟨kX7_61, sX7_in, by decide, by decide⟩ rfl rfl (Nat.le_of_ble_eq_true rfl) (Nat.le_of_ble_eq_true rfl) ?_
    refine ct_X7_in (by constructor <;> omega) (by constructor <;> omega) (by constructor <;> omega) ?_
    show V_ _ _ _ _ _ _ [_] _
    refine V_if_ne (tgt := 49) (pc := 43) dX7_passes_43 (by decide) b2_rg (fun h43 => ?_) (fun h43 => ?_)
    · skip
      rw [b2_n0] at h43
      refine V_aload_n (pc := 49) dX7_passes_49 rfl rfl ?_
      refine V_dup (pc := 50) dX7_passes_50 rfl ?_
      refine V_geti (pc := 51) dX7_passes_51 fX7_94 rfl gg_38 rfl (fun r51 => ?_)
      rw [hq] at r51 ⊢
      refine V_iconst (pc := 54) dX7_passes_54 ?_
      refine V_iadd (pc := 55) dX7_passes_55 ?_
      refine V_puti (pc := 56) dX7_passes_56 fX7_94 rfl gg_38 rfl pq_7_7 rfl rfl (by constructor <;> omega) ?_
      refine V_iload (pc := 59) dX7_passes_59 rfl ?_
      refine V_iload_n (pc := 61) dX7_passes_61 rfl rfl ?_
      refine V_isub (pc := 62) dX7_passes_62 ?_
      refine V_ireturn (pc := 63) dX7_passes_63 rfl rfl (fun hR => ?_)
      first | exact h1 h43 | (exfalso; omega)
    · skip
      rw [b2_0] at h43
      refine V_bipush (pc := 46) dX7_passes_46 (by decide) ?_
      refine V_ireturn (pc := 48) dX7_passes_48 rfl rfl (fun hR => ?_)
      exact h2 (by omega)
  · skip
    refine V_aload_n (pc := 13) dX7_passes_13 rfl rfl ?_
    refine V_getr (pc := 14) dX7_passes_14 fX7_22 rfl gg_38 rfl ?_
    refine V_bipush (pc := 17) dX7_passes_17 (by decide) ?_
    refine V_iload_n (pc := 19) dX7_passes_19 rfl rfl ?_
    refine V_imul (pc := 20) dX7_passes_20 ?_
    refine V_aload_n (pc := 21) dX7_passes_21 rfl rfl ?_
    refine V_geti (pc := 22) dX7_passes_22 fX7_94 rfl gg_38 rfl (fun r22 => ?_)
    rw [hq] at r22 ⊢
    refine V_iadd (pc := 25) dX7_passes_25 ?_
    refine V_iald (pc := 26) dX7_passes_26 gg_43 (by have : ((180 : Nat) : Int) = 180 := rfl; omega) (by decide) (fun r26 => ?_)
    have ix : (60 * 0 + (q : Int)).toNat = 60 * 0 + q := by omega
    rw [ix, hT.2 q (by omega), show b q = ba_ L b q from by unfold ba_; rw [if_pos (by omega)]; rfl] at r26 ⊢
    refine V_goto (tgt := 31) (pc := 27) dX7_passes_27 (by decide) ?_
    refine V_istore (pc := 31) dX7_passes_31 (by decide) rfl ?_
    show V_ _ _ _ _ _ [_, _, _, _, _] _ _
    refine V_iload (pc := 33) dX7_passes_33 rfl ?_
    refine V_i2l (pc := 35) dX7_passes_35 (by constructor <;> omega) ?_
    refine V_iload_n (pc := 36) dX7_passes_36 rfl rfl ?_
    refine V_i2l (pc := 37) dX7_passes_37 (by first | assumption | decide | omega | exact ba_rg hR | exact b2_rg) ?_
    refine V_iload_n (pc := 38) dX7_passes_38 rfl rfl ?_
    refine V_i2l (pc := 39) dX7_passes_39 (by first | assumption | decide | omega | exact ba_rg hR | exact b2_rg) ?_
    refine V_callS (pc := 40) (as := [_, _, _]) (rest := []) dX7_passes_40 ⟨kX7_61, sX7_in, by decide, by decide⟩ rfl rfl (Nat.le_of_ble_eq_true rfl) (Nat.le_of_ble_eq_true rfl) ?_
    refine ct_X7_in (by constructor <;> omega) (by constructor <;> omega) (by constructor <;> omega) ?_
    show V_ _ _ _ _ _ _ [_] _
    refine V_if_ne (tgt := 49) (pc := 43) dX7_passes_43 (by decide) b2_rg (fun h43 => ?_) (fun h43 => ?_)
    · skip
      rw [b2_n0] at h43
      refine V_aload_n (pc := 49) dX7_passes_49 rfl rfl ?_
      refine V_dup (pc := 50) dX7_passes_50 rfl ?_
      refine V_geti (pc := 51) dX7_passes_51 fX7_94 rfl gg_38 rfl (fun r51 => ?_)
      rw [hq] at r51 ⊢
      refine V_iconst (pc := 54) dX7_passes_54 ?_
      refine V_iadd (pc := 55) dX7_passes_55 ?_
      refine V_puti (pc := 56) dX7_passes_56 fX7_94 rfl gg_38 rfl pq_7_7 rfl rfl (by constructor <;> omega) ?_
      refine V_iload (pc := 59) dX7_passes_59 rfl ?_
      refine V_iload_n (pc := 61) dX7_passes_61 rfl rfl ?_
      refine V_isub (pc := 62) dX7_passes_62 ?_
      refine V_ireturn (pc := 63) dX7_passes_63 rfl rfl (fun hR => ?_)
      first | exact h1 h43 | (exfalso; omega)
    · skip
      rw [b2_0] at h43
      refine V_bipush (pc := 46) dX7_passes_46 (by decide) ?_
      refine V_ireturn (pc := 48) dX7_passes_48 rfl rfl (fun hR => ?_)
      exact h2 (by omega)
theorem ct_X7_passes_1 {L : Int} {b : Nat → Int} {q : Nat} {x z : Int} (hT : MT_ 1 L b σ) (hL : 0 ≤ L ∧ L ≤ 39) (hq : σ 38 7 = (q : Int)) (hq2 : q ≤ 60) (hx : 1 ≤ x ∧ x ≤ 255) (hz : 1 ≤ z ∧ z ≤ 255) (h1 : x ≤ ba_ L b q ∧ ba_ L b q ≤ z → post (some (vi_ (ba_ L b q - x))) (ms_ σ 38 7 ((q : Int) + 1))) (h2 : ¬ (x ≤ ba_ L b q ∧ ba_ L b q ≤ z) → post (some (vi_ (-9))) σ) : V_ l D mX7_passes (CM_ D mX7_passes post) 0 [some (vr_ 38), some (vi_ 1), some (vi_ x), some (vi_ z), none] [] σ := by
  refine V_aload_n (pc := 0) dX7_passes_0 rfl rfl ?_
  refine V_geti (pc := 1) dX7_passes_1 fX7_94 rfl gg_38 rfl (fun r1 => ?_)
  rw [hq] at r1 ⊢
  refine V_aload_n (pc := 4) dX7_passes_4 rfl rfl ?_
  refine V_getr (pc := 5) dX7_passes_5 fX7_25 rfl gg_38 rfl ?_
  refine V_iload_n (pc := 8) dX7_passes_8 rfl rfl ?_
  refine V_iald (pc := 9) dX7_passes_9 gg_44 (by decide) (by decide) (fun r9 => ?_)
  rw [show σ 44 (1 : Int).toNat = L from hT.1] at r9 ⊢
  refine V_icmp_ge (tgt := 30) (pc := 10) dX7_passes_10 (by decide) (by first | assumption | decide | omega | exact ba_rg hR | exact b2_rg) (by first | assumption | decide | omega | exact ba_rg hR | exact b2_rg) (fun h10 => ?_) (fun h10 => ?_)
  · skip
    have hb0 : ba_ L b q = 0 := by unfold ba_; rw [if_neg (by omega)]
    refine V_iconst (pc := 30) dX7_passes_30 ?_
    refine V_istore (pc := 31) dX7_passes_31 (by decide) rfl ?_
    show V_ _ _ _ _ _ [_, _, _, _, _] _ _
    refine V_iload (pc := 33) dX7_passes_33 rfl ?_
    refine V_i2l (pc := 35) dX7_passes_35 (by constructor <;> omega) ?_
    refine V_iload_n (pc := 36) dX7_passes_36 rfl rfl ?_
    refine V_i2l (pc := 37) dX7_passes_37 (by first | assumption | decide | omega | exact ba_rg hR | exact b2_rg) ?_
    refine V_iload_n (pc := 38) dX7_passes_38 rfl rfl ?_
    refine V_i2l (pc := 39) dX7_passes_39 (by first | assumption | decide | omega | exact ba_rg hR | exact b2_rg) ?_
    refine V_callS (pc := 40) (as := [_, _, _]) (rest := []) dX7_passes_40 ⟨kX7_61, sX7_in, by decide, by decide⟩ rfl rfl (Nat.le_of_ble_eq_true rfl) (Nat.le_of_ble_eq_true rfl) ?_
    refine ct_X7_in (by constructor <;> omega) (by constructor <;> omega) (by constructor <;> omega) ?_
    show V_ _ _ _ _ _ _ [_] _
    refine V_if_ne (tgt := 49) (pc := 43) dX7_passes_43 (by decide) b2_rg (fun h43 => ?_) (fun h43 => ?_)
    · skip
      rw [b2_n0] at h43
      refine V_aload_n (pc := 49) dX7_passes_49 rfl rfl ?_
      refine V_dup (pc := 50) dX7_passes_50 rfl ?_
      refine V_geti (pc := 51) dX7_passes_51 fX7_94 rfl gg_38 rfl (fun r51 => ?_)
      rw [hq] at r51 ⊢
      refine V_iconst (pc := 54) dX7_passes_54 ?_
      refine V_iadd (pc := 55) dX7_passes_55 ?_
      refine V_puti (pc := 56) dX7_passes_56 fX7_94 rfl gg_38 rfl pq_7_7 rfl rfl (by constructor <;> omega) ?_
      refine V_iload (pc := 59) dX7_passes_59 rfl ?_
      refine V_iload_n (pc := 61) dX7_passes_61 rfl rfl ?_
      refine V_isub (pc := 62) dX7_passes_62 ?_
      refine V_ireturn (pc := 63) dX7_passes_63 rfl rfl (fun hR => ?_)
      first | exact h1 h43 | (exfalso; omega)
    · skip
      rw [b2_0] at h43
      refine V_bipush (pc := 46) dX7_passes_46 (by decide) ?_
      refine V_ireturn (pc := 48) dX7_passes_48 rfl rfl (fun hR => ?_)
      exact h2 (by omega)
  · skip
    refine V_aload_n (pc := 13) dX7_passes_13 rfl rfl ?_
    refine V_getr (pc := 14) dX7_passes_14 fX7_22 rfl gg_38 rfl ?_
    refine V_bipush (pc := 17) dX7_passes_17 (by decide) ?_
    refine V_iload_n (pc := 19) dX7_passes_19 rfl rfl ?_
    refine V_imul (pc := 20) dX7_passes_20 ?_
    refine V_aload_n (pc := 21) dX7_passes_21 rfl rfl ?_
    refine V_geti (pc := 22) dX7_passes_22 fX7_94 rfl gg_38 rfl (fun r22 => ?_)
    rw [hq] at r22 ⊢
    refine V_iadd (pc := 25) dX7_passes_25 ?_
    refine V_iald (pc := 26) dX7_passes_26 gg_43 (by have : ((180 : Nat) : Int) = 180 := rfl; omega) (by decide) (fun r26 => ?_)
    have ix : (60 * 1 + (q : Int)).toNat = 60 * 1 + q := by omega
    rw [ix, hT.2 q (by omega), show b q = ba_ L b q from by unfold ba_; rw [if_pos (by omega)]; rfl] at r26 ⊢
    refine V_goto (tgt := 31) (pc := 27) dX7_passes_27 (by decide) ?_
    refine V_istore (pc := 31) dX7_passes_31 (by decide) rfl ?_
    show V_ _ _ _ _ _ [_, _, _, _, _] _ _
    refine V_iload (pc := 33) dX7_passes_33 rfl ?_
    refine V_i2l (pc := 35) dX7_passes_35 (by constructor <;> omega) ?_
    refine V_iload_n (pc := 36) dX7_passes_36 rfl rfl ?_
    refine V_i2l (pc := 37) dX7_passes_37 (by first | assumption | decide | omega | exact ba_rg hR | exact b2_rg) ?_
    refine V_iload_n (pc := 38) dX7_passes_38 rfl rfl ?_
    refine V_i2l (pc := 39) dX7_passes_39 (by first | assumption | decide | omega | exact ba_rg hR | exact b2_rg) ?_
    refine V_callS (pc := 40) (as := [_, _, _]) (rest := []) dX7_passes_40 ⟨kX7_61, sX7_in, by decide, by decide⟩ rfl rfl (Nat.le_of_ble_eq_true rfl) (Nat.le_of_ble_eq_true rfl) ?_
    refine ct_X7_in (by constructor <;> omega) (by constructor <;> omega) (by constructor <;> omega) ?_
    show V_ _ _ _ _ _ _ [_] _
    refine V_if_ne (tgt := 49) (pc := 43) dX7_passes_43 (by decide) b2_rg (fun h43 => ?_) (fun h43 => ?_)
    · skip
      rw [b2_n0] at h43
      refine V_aload_n (pc := 49) dX7_passes_49 rfl rfl ?_
      refine V_dup (pc := 50) dX7_passes_50 rfl ?_
      refine V_geti (pc := 51) dX7_passes_51 fX7_94 rfl gg_38 rfl (fun r51 => ?_)
      rw [hq] at r51 ⊢
      refine V_iconst (pc := 54) dX7_passes_54 ?_
      refine V_iadd (pc := 55) dX7_passes_55 ?_
      refine V_puti (pc := 56) dX7_passes_56 fX7_94 rfl gg_38 rfl pq_7_7 rfl rfl (by constructor <;> omega) ?_
      refine V_iload (pc := 59) dX7_passes_59 rfl ?_
      refine V_iload_n (pc := 61) dX7_passes_61 rfl rfl ?_
      refine V_isub (pc := 62) dX7_passes_62 ?_
      refine V_ireturn (pc := 63) dX7_passes_63 rfl rfl (fun hR => ?_)
      first | exact h1 h43 | (exfalso; omega)
    · skip
      rw [b2_0] at h43
      refine V_bipush (pc := 46) dX7_passes_46 (by decide) ?_
      refine V_ireturn (pc := 48) dX7_passes_48 rfl rfl (fun hR => ?_)
      exact h2 (by omega)
theorem ct_X7_passes_2 {L : Int} {b : Nat → Int} {q : Nat} {x z : Int} (hT : MT_ 2 L b σ) (hL : 0 ≤ L ∧ L ≤ 59) (hq : σ 38 7 = (q : Int)) (hq2 : q ≤ 60) (hx : 1 ≤ x ∧ x ≤ 255) (hz : 1 ≤ z ∧ z ≤ 255) (h1 : x ≤ ba_ L b q ∧ ba_ L b q ≤ z → post (some (vi_ (ba_ L b q - x))) (ms_ σ 38 7 ((q : Int) + 1))) (h2 : ¬ (x ≤ ba_ L b q ∧ ba_ L b q ≤ z) → post (some (vi_ (-9))) σ) : V_ l D mX7_passes (CM_ D mX7_passes post) 0 [some (vr_ 38), some (vi_ 2), some (vi_ x), some (vi_ z), none] [] σ := by
  refine V_aload_n (pc := 0) dX7_passes_0 rfl rfl ?_
  refine V_geti (pc := 1) dX7_passes_1 fX7_94 rfl gg_38 rfl (fun r1 => ?_)
  rw [hq] at r1 ⊢
  refine V_aload_n (pc := 4) dX7_passes_4 rfl rfl ?_
  refine V_getr (pc := 5) dX7_passes_5 fX7_25 rfl gg_38 rfl ?_
  refine V_iload_n (pc := 8) dX7_passes_8 rfl rfl ?_
  refine V_iald (pc := 9) dX7_passes_9 gg_44 (by decide) (by decide) (fun r9 => ?_)
  rw [show σ 44 (2 : Int).toNat = L from hT.1] at r9 ⊢
  refine V_icmp_ge (tgt := 30) (pc := 10) dX7_passes_10 (by decide) (by first | assumption | decide | omega | exact ba_rg hR | exact b2_rg) (by first | assumption | decide | omega | exact ba_rg hR | exact b2_rg) (fun h10 => ?_) (fun h10 => ?_)
  · skip
    have hb0 : ba_ L b q = 0 := by unfold ba_; rw [if_neg (by omega)]
    refine V_iconst (pc := 30) dX7_passes_30 ?_
    refine V_istore (pc := 31) dX7_passes_31 (by decide) rfl ?_
    show V_ _ _ _ _ _ [_, _, _, _, _] _ _
    refine V_iload (pc := 33) dX7_passes_33 rfl ?_
    refine V_i2l (pc := 35) dX7_passes_35 (by constructor <;> omega) ?_
    refine V_iload_n (pc := 36) dX7_passes_36 rfl rfl ?_
    refine V_i2l (pc := 37) dX7_passes_37 (by first | assumption | decide | omega | exact ba_rg hR | exact b2_rg) ?_
    refine V_iload_n (pc := 38) dX7_passes_38 rfl rfl ?_
    refine V_i2l (pc := 39) dX7_passes_39 (by first | assumption | decide | omega | exact ba_rg hR | exact b2_rg) ?_
    refine V_callS (pc := 40) (as := [_, _, _]) (rest := []) dX7_passes_40 ⟨kX7_61, sX7_in, by decide, by decide⟩ rfl rfl (Nat.le_of_ble_eq_true rfl) (Nat.le_of_ble_eq_true rfl) ?_
    refine ct_X7_in (by constructor <;> omega) (by constructor <;> omega) (by constructor <;> omega) ?_
    show V_ _ _ _ _ _ _ [_] _
    refine V_if_ne (tgt := 49) (pc := 43) dX7_passes_43 (by decide) b2_rg (fun h43 => ?_) (fun h43 => ?_)
    · skip
      rw [b2_n0] at h43
      refine V_aload_n (pc := 49) dX7_passes_49 rfl rfl ?_
      refine V_dup (pc := 50) dX7_passes_50 rfl ?_
      refine V_geti (pc := 51) dX7_passes_51 fX7_94 rfl gg_38 rfl (fun r51 => ?_)
      rw [hq] at r51 ⊢
      refine V_iconst (pc := 54) dX7_passes_54 ?_
      refine V_iadd (pc := 55) dX7_passes_55 ?_
      refine V_puti (pc := 56) dX7_passes_56 fX7_94 rfl gg_38 rfl pq_7_7 rfl rfl (by constructor <;> omega) ?_
      refine V_iload (pc := 59) dX7_passes_59 rfl ?_
      refine V_iload_n (pc := 61) dX7_passes_61 rfl rfl ?_
      refine V_isub (pc := 62) dX7_passes_62 ?_
      refine V_ireturn (pc := 63) dX7_passes_63 rfl rfl (fun hR => ?_)
      first | exact h1 h43 | (exfalso; omega)
    · skip
      rw [b2_0] at h43
      refine V_bipush (pc := 46) dX7_passes_46 (by decide) ?_
      refine V_ireturn (pc := 48) dX7_passes_48 rfl rfl (fun hR => ?_)
      exact h2 (by omega)
  · skip
    refine V_aload_n (pc := 13) dX7_passes_13 rfl rfl ?_
    refine V_getr (pc := 14) dX7_passes_14 fX7_22 rfl gg_38 rfl ?_
    refine V_bipush (pc := 17) dX7_passes_17 (by decide) ?_
    refine V_iload_n (pc := 19) dX7_passes_19 rfl rfl ?_
    refine V_imul (pc := 20) dX7_passes_20 ?_
    refine V_aload_n (pc := 21) dX7_passes_21 rfl rfl ?_
    refine V_geti (pc := 22) dX7_passes_22 fX7_94 rfl gg_38 rfl (fun r22 => ?_)
    rw [hq] at r22 ⊢
    refine V_iadd (pc := 25) dX7_passes_25 ?_
    refine V_iald (pc := 26) dX7_passes_26 gg_43 (by have : ((180 : Nat) : Int) = 180 := rfl; omega) (by decide) (fun r26 => ?_)
    have ix : (60 * 2 + (q : Int)).toNat = 60 * 2 + q := by omega
    rw [ix, hT.2 q (by omega), show b q = ba_ L b q from by unfold ba_; rw [if_pos (by omega)]; rfl] at r26 ⊢
    refine V_goto (tgt := 31) (pc := 27) dX7_passes_27 (by decide) ?_
    refine V_istore (pc := 31) dX7_passes_31 (by decide) rfl ?_
    show V_ _ _ _ _ _ [_, _, _, _, _] _ _
    refine V_iload (pc := 33) dX7_passes_33 rfl ?_
    refine V_i2l (pc := 35) dX7_passes_35 (by constructor <;> omega) ?_
    refine V_iload_n (pc := 36) dX7_passes_36 rfl rfl ?_
    refine V_i2l (pc := 37) dX7_passes_37 (by first | assumption | decide | omega | exact ba_rg hR | exact b2_rg) ?_
    refine V_iload_n (pc := 38) dX7_passes_38 rfl rfl ?_
    refine V_i2l (pc := 39) dX7_passes_39 (by first | assumption | decide | omega | exact ba_rg hR | exact b2_rg) ?_
    refine V_callS (pc := 40) (as := [_, _, _]) (rest := []) dX7_passes_40 ⟨kX7_61, sX7_in, by decide, by decide⟩ rfl rfl (Nat.le_of_ble_eq_true rfl) (Nat.le_of_ble_eq_true rfl) ?_
    refine ct_X7_in (by constructor <;> omega) (by constructor <;> omega) (by constructor <;> omega) ?_
    show V_ _ _ _ _ _ _ [_] _
    refine V_if_ne (tgt := 49) (pc := 43) dX7_passes_43 (by decide) b2_rg (fun h43 => ?_) (fun h43 => ?_)
    · skip
      rw [b2_n0] at h43
      refine V_aload_n (pc := 49) dX7_passes_49 rfl rfl ?_
      refine V_dup (pc := 50) dX7_passes_50 rfl ?_
      refine V_geti (pc := 51) dX7_passes_51 fX7_94 rfl gg_38 rfl (fun r51 => ?_)
      rw [hq] at r51 ⊢
      refine V_iconst (pc := 54) dX7_passes_54 ?_
      refine V_iadd (pc := 55) dX7_passes_55 ?_
      refine V_puti (pc := 56) dX7_passes_56 fX7_94 rfl gg_38 rfl pq_7_7 rfl rfl (by constructor <;> omega) ?_
      refine V_iload (pc := 59) dX7_passes_59 rfl ?_
      refine V_iload_n (pc := 61) dX7_passes_61 rfl rfl ?_
      refine V_isub (pc := 62) dX7_passes_62 ?_
      refine V_ireturn (pc := 63) dX7_passes_63 rfl rfl (fun hR => ?_)
      first | exact h1 h43 | (exfalso; omega)
    · skip
      rw [b2_0] at h43
      refine V_bipush (pc := 46) dX7_passes_46 (by decide) ?_
      refine V_ireturn (pc := 48) dX7_passes_48 rfl rfl (fun hR => ?_)
      exact h2 (by omega)
theorem ct_X7_units_0 {L : Int} {b : Nat → Int} {q : Nat} {x : Int} (hT : MT_ 0 L b σ) (hL : 0 ≤ L ∧ L ≤ 23) (hq : σ 38 7 = (q : Int)) (hq2 : q ≤ 60) (hx : 0 ≤ x ∧ x ≤ 1) (h1 : 48 + x ≤ ba_ L b q ∧ ba_ L b q ≤ 57 → post (some (vi_ (ba_ L b q - 48))) (ms_ σ 38 7 ((q : Int) + 1))) (h2 : ¬ (48 + x ≤ ba_ L b q ∧ ba_ L b q ≤ 57) → post (some (vi_ (-900))) σ) : V_ l D mX7_units (CM_ D mX7_units post) 0 [some (vr_ 38), some (vi_ 0), some (vi_ x), none] [] σ := by
  refine V_aload_n (pc := 0) dX7_units_0 rfl rfl ?_
  refine V_iload_n (pc := 1) dX7_units_1 rfl rfl ?_
  refine V_bipush (pc := 2) dX7_units_2 (by decide) ?_
  refine V_iload_n (pc := 4) dX7_units_4 rfl rfl ?_
  refine V_iadd (pc := 5) dX7_units_5 ?_
  refine V_bipush (pc := 6) dX7_units_6 (by decide) ?_
  refine V_callV (pc := 8) (as := [_, _, _]) (rest := []) dX7_units_8 ⟨kX7_97, iX7_passes, by decide, by decide⟩ rc_38 rfl rfl (Nat.le_of_ble_eq_true rfl) (Nat.le_of_ble_eq_true rfl) ?_
  refine ct_X7_passes_0 hT hL hq hq2 (by omega) (by omega) (fun hy => ?_) (fun hy => ?_)
  · show V_ _ _ _ _ _ _ [_] _
    refine V_istore_n (pc := 11) dX7_units_11 rfl (by decide) rfl ?_
    show V_ _ _ _ _ _ [_, _, _, _] _ _
    refine V_iload_n (pc := 12) dX7_units_12 rfl rfl ?_
    refine V_bipush (pc := 13) dX7_units_13 (by decide) ?_
    refine V_icmp_ne (tgt := 24) (pc := 15) dX7_units_15 (by decide) (by constructor <;> omega) (by constructor <;> omega) (fun h15 => ?_) (fun h15 => ?_)
    · skip
      refine V_iload_n (pc := 24) dX7_units_24 rfl rfl ?_
      refine V_iload_n (pc := 25) dX7_units_25 rfl rfl ?_
      refine V_iadd (pc := 26) dX7_units_26 ?_
      refine V_ireturn (pc := 27) dX7_units_27 rfl rfl (fun hR => ?_)
      first | (exfalso; omega) | (rw [show ba_ L b (q : Int) - (48 + x) + x = ba_ L b q - 48 by omega]; exact h1 hy)
    · skip
      refine V_sipush (pc := 18) dX7_units_18 (by decide) ?_
      refine V_goto (tgt := 27) (pc := 21) dX7_units_21 (by decide) ?_
      refine V_ireturn (pc := 27) dX7_units_27 rfl rfl (fun hR => ?_)
      first | (exfalso; omega) | (rw [show ba_ L b (q : Int) - (48 + x) + x = ba_ L b q - 48 by omega]; exact h1 hy)
  · show V_ _ _ _ _ _ _ [_] _
    refine V_istore_n (pc := 11) dX7_units_11 rfl (by decide) rfl ?_
    show V_ _ _ _ _ _ [_, _, _, _] _ _
    refine V_iload_n (pc := 12) dX7_units_12 rfl rfl ?_
    refine V_bipush (pc := 13) dX7_units_13 (by decide) ?_
    refine V_icmp_ne (tgt := 24) (pc := 15) dX7_units_15 (by decide) (by constructor <;> omega) (by constructor <;> omega) (fun h15 => ?_) (fun h15 => ?_)
    · skip
      refine V_iload_n (pc := 24) dX7_units_24 rfl rfl ?_
      refine V_iload_n (pc := 25) dX7_units_25 rfl rfl ?_
      refine V_iadd (pc := 26) dX7_units_26 ?_
      refine V_ireturn (pc := 27) dX7_units_27 rfl rfl (fun hR => ?_)
      first | (exfalso; omega) | exact h2 hy
    · skip
      refine V_sipush (pc := 18) dX7_units_18 (by decide) ?_
      refine V_goto (tgt := 27) (pc := 21) dX7_units_21 (by decide) ?_
      refine V_ireturn (pc := 27) dX7_units_27 rfl rfl (fun hR => ?_)
      first | (exfalso; omega) | exact h2 hy
theorem ct_X7_units_1 {L : Int} {b : Nat → Int} {q : Nat} {x : Int} (hT : MT_ 1 L b σ) (hL : 0 ≤ L ∧ L ≤ 39) (hq : σ 38 7 = (q : Int)) (hq2 : q ≤ 60) (hx : 0 ≤ x ∧ x ≤ 1) (h1 : 48 + x ≤ ba_ L b q ∧ ba_ L b q ≤ 57 → post (some (vi_ (ba_ L b q - 48))) (ms_ σ 38 7 ((q : Int) + 1))) (h2 : ¬ (48 + x ≤ ba_ L b q ∧ ba_ L b q ≤ 57) → post (some (vi_ (-900))) σ) : V_ l D mX7_units (CM_ D mX7_units post) 0 [some (vr_ 38), some (vi_ 1), some (vi_ x), none] [] σ := by
  refine V_aload_n (pc := 0) dX7_units_0 rfl rfl ?_
  refine V_iload_n (pc := 1) dX7_units_1 rfl rfl ?_
  refine V_bipush (pc := 2) dX7_units_2 (by decide) ?_
  refine V_iload_n (pc := 4) dX7_units_4 rfl rfl ?_
  refine V_iadd (pc := 5) dX7_units_5 ?_
  refine V_bipush (pc := 6) dX7_units_6 (by decide) ?_
  refine V_callV (pc := 8) (as := [_, _, _]) (rest := []) dX7_units_8 ⟨kX7_97, iX7_passes, by decide, by decide⟩ rc_38 rfl rfl (Nat.le_of_ble_eq_true rfl) (Nat.le_of_ble_eq_true rfl) ?_
  refine ct_X7_passes_1 hT hL hq hq2 (by omega) (by omega) (fun hy => ?_) (fun hy => ?_)
  · show V_ _ _ _ _ _ _ [_] _
    refine V_istore_n (pc := 11) dX7_units_11 rfl (by decide) rfl ?_
    show V_ _ _ _ _ _ [_, _, _, _] _ _
    refine V_iload_n (pc := 12) dX7_units_12 rfl rfl ?_
    refine V_bipush (pc := 13) dX7_units_13 (by decide) ?_
    refine V_icmp_ne (tgt := 24) (pc := 15) dX7_units_15 (by decide) (by constructor <;> omega) (by constructor <;> omega) (fun h15 => ?_) (fun h15 => ?_)
    · skip
      refine V_iload_n (pc := 24) dX7_units_24 rfl rfl ?_
      refine V_iload_n (pc := 25) dX7_units_25 rfl rfl ?_
      refine V_iadd (pc := 26) dX7_units_26 ?_
      refine V_ireturn (pc := 27) dX7_units_27 rfl rfl (fun hR => ?_)
      first | (exfalso; omega) | (rw [show ba_ L b (q : Int) - (48 + x) + x = ba_ L b q - 48 by omega]; exact h1 hy)
    · skip
      refine V_sipush (pc := 18) dX7_units_18 (by decide) ?_
      refine V_goto (tgt := 27) (pc := 21) dX7_units_21 (by decide) ?_
      refine V_ireturn (pc := 27) dX7_units_27 rfl rfl (fun hR => ?_)
      first | (exfalso; omega) | (rw [show ba_ L b (q : Int) - (48 + x) + x = ba_ L b q - 48 by omega]; exact h1 hy)
  · show V_ _ _ _ _ _ _ [_] _
    refine V_istore_n (pc := 11) dX7_units_11 rfl (by decide) rfl ?_
    show V_ _ _ _ _ _ [_, _, _, _] _ _
    refine V_iload_n (pc := 12) dX7_units_12 rfl rfl ?_
    refine V_bipush (pc := 13) dX7_units_13 (by decide) ?_
    refine V_icmp_ne (tgt := 24) (pc := 15) dX7_units_15 (by decide) (by constructor <;> omega) (by constructor <;> omega) (fun h15 => ?_) (fun h15 => ?_)
    · skip
      refine V_iload_n (pc := 24) dX7_units_24 rfl rfl ?_
      refine V_iload_n (pc := 25) dX7_units_25 rfl rfl ?_
      refine V_iadd (pc := 26) dX7_units_26 ?_
      refine V_ireturn (pc := 27) dX7_units_27 rfl rfl (fun hR => ?_)
      first | (exfalso; omega) | exact h2 hy
    · skip
      refine V_sipush (pc := 18) dX7_units_18 (by decide) ?_
      refine V_goto (tgt := 27) (pc := 21) dX7_units_21 (by decide) ?_
      refine V_ireturn (pc := 27) dX7_units_27 rfl rfl (fun hR => ?_)
      first | (exfalso; omega) | exact h2 hy
theorem ct_X7_units_2 {L : Int} {b : Nat → Int} {q : Nat} {x : Int} (hT : MT_ 2 L b σ) (hL : 0 ≤ L ∧ L ≤ 59) (hq : σ 38 7 = (q : Int)) (hq2 : q ≤ 60) (hx : 0 ≤ x ∧ x ≤ 1) (h1 : 48 + x ≤ ba_ L b q ∧ ba_ L b q ≤ 57 → post (some (vi_ (ba_ L b q - 48))) (ms_ σ 38 7 ((q : Int) + 1))) (h2 : ¬ (48 + x ≤ ba_ L b q ∧ ba_ L b q ≤ 57) → post (some (vi_ (-900))) σ) : V_ l D mX7_units (CM_ D mX7_units post) 0 [some (vr_ 38), some (vi_ 2), some (vi_ x), none] [] σ := by
  refine V_aload_n (pc := 0) dX7_units_0 rfl rfl ?_
  refine V_iload_n (pc := 1) dX7_units_1 rfl rfl ?_
  refine V_bipush (pc := 2) dX7_units_2 (by decide) ?_
  refine V_iload_n (pc := 4) dX7_units_4 rfl rfl ?_
  refine V_iadd (pc := 5) dX7_units_5 ?_
  refine V_bipush (pc := 6) dX7_units_6 (by decide) ?_
  refine V_callV (pc := 8) (as := [_, _, _]) (rest := []) dX7_units_8 ⟨kX7_97, iX7_passes, by decide, by decide⟩ rc_38 rfl rfl (Nat.le_of_ble_eq_true rfl) (Nat.le_of_ble_eq_true rfl) ?_
  refine ct_X7_passes_2 hT hL hq hq2 (by omega) (by omega) (fun hy => ?_) (fun hy => ?_)
  · show V_ _ _ _ _ _ _ [_] _
    refine V_istore_n (pc := 11) dX7_units_11 rfl (by decide) rfl ?_
    show V_ _ _ _ _ _ [_, _, _, _] _ _
    refine V_iload_n (pc := 12) dX7_units_12 rfl rfl ?_
    refine V_bipush (pc := 13) dX7_units_13 (by decide) ?_
    refine V_icmp_ne (tgt := 24) (pc := 15) dX7_units_15 (by decide) (by constructor <;> omega) (by constructor <;> omega) (fun h15 => ?_) (fun h15 => ?_)
    · skip
      refine V_iload_n (pc := 24) dX7_units_24 rfl rfl ?_
      refine V_iload_n (pc := 25) dX7_units_25 rfl rfl ?_
      refine V_iadd (pc := 26) dX7_units_26 ?_
      refine V_ireturn (pc := 27) dX7_units_27 rfl rfl (fun hR => ?_)
      first | (exfalso; omega) | (rw [show ba_ L b (q : Int) - (48 + x) + x = ba_ L b q - 48 by omega]; exact h1 hy)
    · skip
      refine V_sipush (pc := 18) dX7_units_18 (by decide) ?_
      refine V_goto (tgt := 27) (pc := 21) dX7_units_21 (by decide) ?_
      refine V_ireturn (pc := 27) dX7_units_27 rfl rfl (fun hR => ?_)
      first | (exfalso; omega) | (rw [show ba_ L b (q : Int) - (48 + x) + x = ba_ L b q - 48 by omega]; exact h1 hy)
  · show V_ _ _ _ _ _ _ [_] _
    refine V_istore_n (pc := 11) dX7_units_11 rfl (by decide) rfl ?_
    show V_ _ _ _ _ _ [_, _, _, _] _ _
    refine V_iload_n (pc := 12) dX7_units_12 rfl rfl ?_
    refine V_bipush (pc := 13) dX7_units_13 (by decide) ?_
    refine V_icmp_ne (tgt := 24) (pc := 15) dX7_units_15 (by decide) (by constructor <;> omega) (by constructor <;> omega) (fun h15 => ?_) (fun h15 => ?_)
    · skip
      refine V_iload_n (pc := 24) dX7_units_24 rfl rfl ?_
      refine V_iload_n (pc := 25) dX7_units_25 rfl rfl ?_
      refine V_iadd (pc := 26) dX7_units_26 ?_
      refine V_ireturn (pc := 27) dX7_units_27 rfl rfl (fun hR => ?_)
      first | (exfalso; omega) | exact h2 hy
    · skip
      refine V_sipush (pc := 18) dX7_units_18 (by decide) ?_
      refine V_goto (tgt := 27) (pc := 21) dX7_units_21 (by decide) ?_
      refine V_ireturn (pc := 27) dX7_units_27 rfl rfl (fun hR => ?_)
      first | (exfalso; omega) | exact h2 hy
theorem ct_X7_twoFigures_0 {L : Int} {b : Nat → Int} {q : Nat} {x : Int} (hT : MT_ 0 L b σ) (hL : 0 ≤ L ∧ L ≤ 23) (hq : σ 38 7 = (q : Int)) (hq2 : q ≤ 59) (hx : 0 ≤ x ∧ x ≤ 1)
    (h1 : (48 ≤ ba_ L b q ∧ ba_ L b q ≤ 57) → (48 + (if ba_ L b q = 48 then x else 0) ≤ ba_ L b ((q + 1 : Nat) : Int) ∧ ba_ L b ((q + 1 : Nat) : Int) ≤ 57) → post (some (vi_ (fg_ L b q))) (ms_ σ 38 7 ((q + 2 : Nat) : Int)))
    (h2 : (48 ≤ ba_ L b q ∧ ba_ L b q ≤ 57) → ¬ (48 + (if ba_ L b q = 48 then x else 0) ≤ ba_ L b ((q + 1 : Nat) : Int) ∧ ba_ L b ((q + 1 : Nat) : Int) ≤ 57) → ∀ z : Int, -900 ≤ z ∧ z < 0 → post (some (vi_ z)) (ms_ σ 38 7 ((q + 1 : Nat) : Int)))
    (h3 : ¬ (48 ≤ ba_ L b q ∧ ba_ L b q ≤ 57) → post (some (vi_ (-9))) σ) : V_ l D mX7_twoFigures (CM_ D mX7_twoFigures post) 0 [some (vr_ 38), some (vi_ 0), some (vi_ x), none] [] σ := by
  refine V_aload_n (pc := 0) dX7_twoFigures_0 rfl rfl ?_
  refine V_iload_n (pc := 1) dX7_twoFigures_1 rfl rfl ?_
  refine V_bipush (pc := 2) dX7_twoFigures_2 (by decide) ?_
  refine V_bipush (pc := 4) dX7_twoFigures_4 (by decide) ?_
  refine V_callV (pc := 6) (as := [_, _, _]) (rest := []) dX7_twoFigures_6 ⟨kX7_97, iX7_passes, by decide, by decide⟩ rc_38 rfl rfl (Nat.le_of_ble_eq_true rfl) (Nat.le_of_ble_eq_true rfl) ?_
  refine ct_X7_passes_0 hT hL hq (by omega) (by decide) (by decide) (fun hy => ?_) (fun hy => ?_)
  · show V_ _ _ _ _ _ _ [_] _
    refine V_istore_n (pc := 9) dX7_twoFigures_9 rfl (by decide) rfl ?_
    show V_ _ _ _ _ _ [_, _, _, _] _ _
    refine V_iload_n (pc := 10) dX7_twoFigures_10 rfl rfl ?_
    refine V_bipush (pc := 11) dX7_twoFigures_11 (by decide) ?_
    refine V_icmp_ne (tgt := 21) (pc := 13) dX7_twoFigures_13 (by decide) (by constructor <;> omega) (by constructor <;> omega) (fun h13 => ?_) (fun h13 => by omega)
    refine V_bipush (pc := 21) dX7_twoFigures_21 (by decide) ?_
    refine V_iload_n (pc := 23) dX7_twoFigures_23 rfl rfl ?_
    refine V_imul (pc := 24) dX7_twoFigures_24 ?_
    refine V_aload_n (pc := 25) dX7_twoFigures_25 rfl rfl ?_
    refine V_iload_n (pc := 26) dX7_twoFigures_26 rfl rfl ?_
    refine V_iload_n (pc := 27) dX7_twoFigures_27 rfl rfl ?_
    refine V_if_ne (tgt := 35) (pc := 28) dX7_twoFigures_28 (by decide) (by constructor <;> omega) (fun h28 => ?_) (fun h28 => ?_)
    · skip
      refine V_iconst (pc := 35) dX7_twoFigures_35 ?_
      refine V_callV (pc := 36) (as := [_, _]) (rest := [_]) dX7_twoFigures_36 ⟨kX7_100, iX7_units, by decide, by decide⟩ rc_38 rfl rfl (Nat.le_of_ble_eq_true rfl) (Nat.le_of_ble_eq_true rfl) ?_
      refine ct_X7_units_0 (q := q + 1) (hT.ms (by decide) (by decide)) hL ms_eq (by omega) (by omega) (fun hz => ?_) (fun hz => ?_)
      · show V_ _ _ _ _ _ _ [_, _] _
        refine V_iadd (pc := 39) dX7_twoFigures_39 ?_
        refine V_ireturn (pc := 40) dX7_twoFigures_40 rfl rfl (fun hR => ?_)
        have h4 := h1 hy (by first | (rw [if_pos (by omega)]; exact hz) | (rw [if_neg (by omega)]; exact hz))
        rw [ms_ms]
        exact h4
      · show V_ _ _ _ _ _ _ [_, _] _
        refine V_iadd (pc := 39) dX7_twoFigures_39 ?_
        refine V_ireturn (pc := 40) dX7_twoFigures_40 rfl rfl (fun hR => ?_)
        exact h2 hy (by first | (rw [if_pos (by omega)]; exact hz) | (rw [if_neg (by omega)]; exact hz)) _ (by omega)
    · skip
      refine V_iload_n (pc := 31) dX7_twoFigures_31 rfl rfl ?_
      refine V_goto (tgt := 36) (pc := 32) dX7_twoFigures_32 (by decide) ?_
      refine V_callV (pc := 36) (as := [_, _]) (rest := [_]) dX7_twoFigures_36 ⟨kX7_100, iX7_units, by decide, by decide⟩ rc_38 rfl rfl (Nat.le_of_ble_eq_true rfl) (Nat.le_of_ble_eq_true rfl) ?_
      refine ct_X7_units_0 (q := q + 1) (hT.ms (by decide) (by decide)) hL ms_eq (by omega) (by omega) (fun hz => ?_) (fun hz => ?_)
      · show V_ _ _ _ _ _ _ [_, _] _
        refine V_iadd (pc := 39) dX7_twoFigures_39 ?_
        refine V_ireturn (pc := 40) dX7_twoFigures_40 rfl rfl (fun hR => ?_)
        have h4 := h1 hy (by first | (rw [if_pos (by omega)]; exact hz) | (rw [if_neg (by omega)]; exact hz))
        rw [ms_ms]
        exact h4
      · show V_ _ _ _ _ _ _ [_, _] _
        refine V_iadd (pc := 39) dX7_twoFigures_39 ?_
        refine V_ireturn (pc := 40) dX7_twoFigures_40 rfl rfl (fun hR => ?_)
        exact h2 hy (by first | (rw [if_pos (by omega)]; exact hz) | (rw [if_neg (by omega)]; exact hz)) _ (by omega)
  · show V_ _ _ _ _ _ _ [_] _
    refine V_istore_n (pc := 9) dX7_twoFigures_9 rfl (by decide) rfl ?_
    show V_ _ _ _ _ _ [_, _, _, _] _ _
    refine V_iload_n (pc := 10) dX7_twoFigures_10 rfl rfl ?_
    refine V_bipush (pc := 11) dX7_twoFigures_11 (by decide) ?_
    refine V_icmp_ne (tgt := 21) (pc := 13) dX7_twoFigures_13 (by decide) (by constructor <;> omega) (by constructor <;> omega) (fun h13 => by omega) (fun h13 => ?_)
    refine V_bipush (pc := 16) dX7_twoFigures_16 (by decide) ?_
    refine V_goto (tgt := 40) (pc := 18) dX7_twoFigures_18 (by decide) ?_
    refine V_ireturn (pc := 40) dX7_twoFigures_40 rfl rfl (fun hR => ?_)
    exact h3 hy
theorem ct_X7_twoFigures_1 {L : Int} {b : Nat → Int} {q : Nat} {x : Int} (hT : MT_ 1 L b σ) (hL : 0 ≤ L ∧ L ≤ 39) (hq : σ 38 7 = (q : Int)) (hq2 : q ≤ 59) (hx : 0 ≤ x ∧ x ≤ 1)
    (h1 : (48 ≤ ba_ L b q ∧ ba_ L b q ≤ 57) → (48 + (if ba_ L b q = 48 then x else 0) ≤ ba_ L b ((q + 1 : Nat) : Int) ∧ ba_ L b ((q + 1 : Nat) : Int) ≤ 57) → post (some (vi_ (fg_ L b q))) (ms_ σ 38 7 ((q + 2 : Nat) : Int)))
    (h2 : (48 ≤ ba_ L b q ∧ ba_ L b q ≤ 57) → ¬ (48 + (if ba_ L b q = 48 then x else 0) ≤ ba_ L b ((q + 1 : Nat) : Int) ∧ ba_ L b ((q + 1 : Nat) : Int) ≤ 57) → ∀ z : Int, -900 ≤ z ∧ z < 0 → post (some (vi_ z)) (ms_ σ 38 7 ((q + 1 : Nat) : Int)))
    (h3 : ¬ (48 ≤ ba_ L b q ∧ ba_ L b q ≤ 57) → post (some (vi_ (-9))) σ) : V_ l D mX7_twoFigures (CM_ D mX7_twoFigures post) 0 [some (vr_ 38), some (vi_ 1), some (vi_ x), none] [] σ := by
  refine V_aload_n (pc := 0) dX7_twoFigures_0 rfl rfl ?_
  refine V_iload_n (pc := 1) dX7_twoFigures_1 rfl rfl ?_
  refine V_bipush (pc := 2) dX7_twoFigures_2 (by decide) ?_
  refine V_bipush (pc := 4) dX7_twoFigures_4 (by decide) ?_
  refine V_callV (pc := 6) (as := [_, _, _]) (rest := []) dX7_twoFigures_6 ⟨kX7_97, iX7_passes, by decide, by decide⟩ rc_38 rfl rfl (Nat.le_of_ble_eq_true rfl) (Nat.le_of_ble_eq_true rfl) ?_
  refine ct_X7_passes_1 hT hL hq (by omega) (by decide) (by decide) (fun hy => ?_) (fun hy => ?_)
  · show V_ _ _ _ _ _ _ [_] _
    refine V_istore_n (pc := 9) dX7_twoFigures_9 rfl (by decide) rfl ?_
    show V_ _ _ _ _ _ [_, _, _, _] _ _
    refine V_iload_n (pc := 10) dX7_twoFigures_10 rfl rfl ?_
    refine V_bipush (pc := 11) dX7_twoFigures_11 (by decide) ?_
    refine V_icmp_ne (tgt := 21) (pc := 13) dX7_twoFigures_13 (by decide) (by constructor <;> omega) (by constructor <;> omega) (fun h13 => ?_) (fun h13 => by omega)
    refine V_bipush (pc := 21) dX7_twoFigures_21 (by decide) ?_
    refine V_iload_n (pc := 23) dX7_twoFigures_23 rfl rfl ?_
    refine V_imul (pc := 24) dX7_twoFigures_24 ?_
    refine V_aload_n (pc := 25) dX7_twoFigures_25 rfl rfl ?_
    refine V_iload_n (pc := 26) dX7_twoFigures_26 rfl rfl ?_
    refine V_iload_n (pc := 27) dX7_twoFigures_27 rfl rfl ?_
    refine V_if_ne (tgt := 35) (pc := 28) dX7_twoFigures_28 (by decide) (by constructor <;> omega) (fun h28 => ?_) (fun h28 => ?_)
    · skip
      refine V_iconst (pc := 35) dX7_twoFigures_35 ?_
      refine V_callV (pc := 36) (as := [_, _]) (rest := [_]) dX7_twoFigures_36 ⟨kX7_100, iX7_units, by decide, by decide⟩ rc_38 rfl rfl (Nat.le_of_ble_eq_true rfl) (Nat.le_of_ble_eq_true rfl) ?_
      refine ct_X7_units_1 (q := q + 1) (hT.ms (by decide) (by decide)) hL ms_eq (by omega) (by omega) (fun hz => ?_) (fun hz => ?_)
      · show V_ _ _ _ _ _ _ [_, _] _
        refine V_iadd (pc := 39) dX7_twoFigures_39 ?_
        refine V_ireturn (pc := 40) dX7_twoFigures_40 rfl rfl (fun hR => ?_)
        have h4 := h1 hy (by first | (rw [if_pos (by omega)]; exact hz) | (rw [if_neg (by omega)]; exact hz))
        rw [ms_ms]
        exact h4
      · show V_ _ _ _ _ _ _ [_, _] _
        refine V_iadd (pc := 39) dX7_twoFigures_39 ?_
        refine V_ireturn (pc := 40) dX7_twoFigures_40 rfl rfl (fun hR => ?_)
        exact h2 hy (by first | (rw [if_pos (by omega)]; exact hz) | (rw [if_neg (by omega)]; exact hz)) _ (by omega)
    · skip
      refine V_iload_n (pc := 31) dX7_twoFigures_31 rfl rfl ?_
      refine V_goto (tgt := 36) (pc := 32) dX7_twoFigures_32 (by decide) ?_
      refine V_callV (pc := 36) (as := [_, _]) (rest := [_]) dX7_twoFigures_36 ⟨kX7_100, iX7_units, by decide, by decide⟩ rc_38 rfl rfl (Nat.le_of_ble_eq_true rfl) (Nat.le_of_ble_eq_true rfl) ?_
      refine ct_X7_units_1 (q := q + 1) (hT.ms (by decide) (by decide)) hL ms_eq (by omega) (by omega) (fun hz => ?_) (fun hz => ?_)
      · show V_ _ _ _ _ _ _ [_, _] _
        refine V_iadd (pc := 39) dX7_twoFigures_39 ?_
        refine V_ireturn (pc := 40) dX7_twoFigures_40 rfl rfl (fun hR => ?_)
        have h4 := h1 hy (by first | (rw [if_pos (by omega)]; exact hz) | (rw [if_neg (by omega)]; exact hz))
        rw [ms_ms]
        exact h4
      · show V_ _ _ _ _ _ _ [_, _] _
        refine V_iadd (pc := 39) dX7_twoFigures_39 ?_
        refine V_ireturn (pc := 40) dX7_twoFigures_40 rfl rfl (fun hR => ?_)
        exact h2 hy (by first | (rw [if_pos (by omega)]; exact hz) | (rw [if_neg (by omega)]; exact hz)) _ (by omega)
  · show V_ _ _ _ _ _ _ [_] _
    refine V_istore_n (pc := 9) dX7_twoFigures_9 rfl (by decide) rfl ?_
    show V_ _ _ _ _ _ [_, _, _, _] _ _
    refine V_iload_n (pc := 10) dX7_twoFigures_10 rfl rfl ?_
    refine V_bipush (pc := 11) dX7_twoFigures_11 (by decide) ?_
    refine V_icmp_ne (tgt := 21) (pc := 13) dX7_twoFigures_13 (by decide) (by constructor <;> omega) (by constructor <;> omega) (fun h13 => by omega) (fun h13 => ?_)
    refine V_bipush (pc := 16) dX7_twoFigures_16 (by decide) ?_
    refine V_goto (tgt := 40) (pc := 18) dX7_twoFigures_18 (by decide) ?_
    refine V_ireturn (pc := 40) dX7_twoFigures_40 rfl rfl (fun hR => ?_)
    exact h3 hy
theorem ct_X7_twoFigures_2 {L : Int} {b : Nat → Int} {q : Nat} {x : Int} (hT : MT_ 2 L b σ) (hL : 0 ≤ L ∧ L ≤ 59) (hq : σ 38 7 = (q : Int)) (hq2 : q ≤ 59) (hx : 0 ≤ x ∧ x ≤ 1)
    (h1 : (48 ≤ ba_ L b q ∧ ba_ L b q ≤ 57) → (48 + (if ba_ L b q = 48 then x else 0) ≤ ba_ L b ((q + 1 : Nat) : Int) ∧ ba_ L b ((q + 1 : Nat) : Int) ≤ 57) → post (some (vi_ (fg_ L b q))) (ms_ σ 38 7 ((q + 2 : Nat) : Int)))
    (h2 : (48 ≤ ba_ L b q ∧ ba_ L b q ≤ 57) → ¬ (48 + (if ba_ L b q = 48 then x else 0) ≤ ba_ L b ((q + 1 : Nat) : Int) ∧ ba_ L b ((q + 1 : Nat) : Int) ≤ 57) → ∀ z : Int, -900 ≤ z ∧ z < 0 → post (some (vi_ z)) (ms_ σ 38 7 ((q + 1 : Nat) : Int)))
    (h3 : ¬ (48 ≤ ba_ L b q ∧ ba_ L b q ≤ 57) → post (some (vi_ (-9))) σ) : V_ l D mX7_twoFigures (CM_ D mX7_twoFigures post) 0 [some (vr_ 38), some (vi_ 2), some (vi_ x), none] [] σ := by
  refine V_aload_n (pc := 0) dX7_twoFigures_0 rfl rfl ?_
  refine V_iload_n (pc := 1) dX7_twoFigures_1 rfl rfl ?_
  refine V_bipush (pc := 2) dX7_twoFigures_2 (by decide) ?_
  refine V_bipush (pc := 4) dX7_twoFigures_4 (by decide) ?_
  refine V_callV (pc := 6) (as := [_, _, _]) (rest := []) dX7_twoFigures_6 ⟨kX7_97, iX7_passes, by decide, by decide⟩ rc_38 rfl rfl (Nat.le_of_ble_eq_true rfl) (Nat.le_of_ble_eq_true rfl) ?_
  refine ct_X7_passes_2 hT hL hq (by omega) (by decide) (by decide) (fun hy => ?_) (fun hy => ?_)
  · show V_ _ _ _ _ _ _ [_] _
    refine V_istore_n (pc := 9) dX7_twoFigures_9 rfl (by decide) rfl ?_
    show V_ _ _ _ _ _ [_, _, _, _] _ _
    refine V_iload_n (pc := 10) dX7_twoFigures_10 rfl rfl ?_
    refine V_bipush (pc := 11) dX7_twoFigures_11 (by decide) ?_
    refine V_icmp_ne (tgt := 21) (pc := 13) dX7_twoFigures_13 (by decide) (by constructor <;> omega) (by constructor <;> omega) (fun h13 => ?_) (fun h13 => by omega)
    refine V_bipush (pc := 21) dX7_twoFigures_21 (by decide) ?_
    refine V_iload_n (pc := 23) dX7_twoFigures_23 rfl rfl ?_
    refine V_imul (pc := 24) dX7_twoFigures_24 ?_
    refine V_aload_n (pc := 25) dX7_twoFigures_25 rfl rfl ?_
    refine V_iload_n (pc := 26) dX7_twoFigures_26 rfl rfl ?_
    refine V_iload_n (pc := 27) dX7_twoFigures_27 rfl rfl ?_
    refine V_if_ne (tgt := 35) (pc := 28) dX7_twoFigures_28 (by decide) (by constructor <;> omega) (fun h28 => ?_) (fun h28 => ?_)
    · skip
      refine V_iconst (pc := 35) dX7_twoFigures_35 ?_
      refine V_callV (pc := 36) (as := [_, _]) (rest := [_]) dX7_twoFigures_36 ⟨kX7_100, iX7_units, by decide, by decide⟩ rc_38 rfl rfl (Nat.le_of_ble_eq_true rfl) (Nat.le_of_ble_eq_true rfl) ?_
      refine ct_X7_units_2 (q := q + 1) (hT.ms (by decide) (by decide)) hL ms_eq (by omega) (by omega) (fun hz => ?_) (fun hz => ?_)
      · show V_ _ _ _ _ _ _ [_, _] _
        refine V_iadd (pc := 39) dX7_twoFigures_39 ?_
        refine V_ireturn (pc := 40) dX7_twoFigures_40 rfl rfl (fun hR => ?_)
        have h4 := h1 hy (by first | (rw [if_pos (by omega)]; exact hz) | (rw [if_neg (by omega)]; exact hz))
        rw [ms_ms]
        exact h4
      · show V_ _ _ _ _ _ _ [_, _] _
        refine V_iadd (pc := 39) dX7_twoFigures_39 ?_
        refine V_ireturn (pc := 40) dX7_twoFigures_40 rfl rfl (fun hR => ?_)
        exact h2 hy (by first | (rw [if_pos (by omega)]; exact hz) | (rw [if_neg (by omega)]; exact hz)) _ (by omega)
    · skip
      refine V_iload_n (pc := 31) dX7_twoFigures_31 rfl rfl ?_
      refine V_goto (tgt := 36) (pc := 32) dX7_twoFigures_32 (by decide) ?_
      refine V_callV (pc := 36) (as := [_, _]) (rest := [_]) dX7_twoFigures_36 ⟨kX7_100, iX7_units, by decide, by decide⟩ rc_38 rfl rfl (Nat.le_of_ble_eq_true rfl) (Nat.le_of_ble_eq_true rfl) ?_
      refine ct_X7_units_2 (q := q + 1) (hT.ms (by decide) (by decide)) hL ms_eq (by omega) (by omega) (fun hz => ?_) (fun hz => ?_)
      · show V_ _ _ _ _ _ _ [_, _] _
        refine V_iadd (pc := 39) dX7_twoFigures_39 ?_
        refine V_ireturn (pc := 40) dX7_twoFigures_40 rfl rfl (fun hR => ?_)
        have h4 := h1 hy (by first | (rw [if_pos (by omega)]; exact hz) | (rw [if_neg (by omega)]; exact hz))
        rw [ms_ms]
        exact h4
      · show V_ _ _ _ _ _ _ [_, _] _
        refine V_iadd (pc := 39) dX7_twoFigures_39 ?_
        refine V_ireturn (pc := 40) dX7_twoFigures_40 rfl rfl (fun hR => ?_)
        exact h2 hy (by first | (rw [if_pos (by omega)]; exact hz) | (rw [if_neg (by omega)]; exact hz)) _ (by omega)
  · show V_ _ _ _ _ _ _ [_] _
    refine V_istore_n (pc := 9) dX7_twoFigures_9 rfl (by decide) rfl ?_
    show V_ _ _ _ _ _ [_, _, _, _] _ _
    refine V_iload_n (pc := 10) dX7_twoFigures_10 rfl rfl ?_
    refine V_bipush (pc := 11) dX7_twoFigures_11 (by decide) ?_
    refine V_icmp_ne (tgt := 21) (pc := 13) dX7_twoFigures_13 (by decide) (by constructor <;> omega) (by constructor <;> omega) (fun h13 => by omega) (fun h13 => ?_)
    refine V_bipush (pc := 16) dX7_twoFigures_16 (by decide) ?_
    refine V_goto (tgt := 40) (pc := 18) dX7_twoFigures_18 (by decide) ?_
    refine V_ireturn (pc := 40) dX7_twoFigures_40 rfl rfl (fun hR => ?_)
    exact h3 hy
end
