/-! ## class Text -/
theorem b2_n0 {p : Prop} : b2_ p ≠ 0 ↔ p := by
  by_cases h : p
  · rw [b2_t h]; simp [h]
  · rw [b2_f h]; simp [h]
def ba_ (L : Int) (b : Nat → Int) (x : Int) : Int := if 0 ≤ x ∧ x < L then b x.toNat else 0
theorem ba_rg {L : Int} {σ : Mm_} {k : Nat} {x : Int} (h : RM_ σ) : Rg_ (ba_ L (σ k) x) := by
  unfold ba_
  split
  · exact h _ _
  · decide
def sp_ (t : Nat) : Nat := if t = 0 then 4 else 5
def pt_ (t p : Nat) : Int := (([[57, 49, 57], [57, 57, 108, 46], [53, 97, 57, 49]] : List (List Int)).getD t []).getD p 0
/-- a byte b, behind a byte c, goes on with the sign q -/
def oc_ (q b c : Int) : Bool :=
  if q = 57 then decide (48 ≤ b ∧ b ≤ 57) else if q = 49 then decide ((48 ≤ b ∧ b ≤ 57) ∧ (b ≠ 48 ∨ c ≠ 48)) else if q = 53 then decide (48 ≤ b ∧ b ≤ 53) else
  if q = 97 then decide (97 ≤ b ∧ b ≤ 104) else if q = 108 then decide (b = 108 ∨ b = 100) else if q = 46 then decide (b = 46 ∨ (97 ≤ b ∧ b ≤ 104)) else false
/-- a text t of L bytes b can go on with its byte i -/
def ok_ (t : Nat) (L : Int) (b : Nat → Int) (i : Nat) : Bool :=
  if i % sp_ t = sp_ t - 1 then decide (ba_ L b i = 59) else oc_ (pt_ t (i % sp_ t)) (ba_ L b i) (ba_ L b ((i : Int) - 1))
/-- a text's fault -/
def fa_ (t : Nat) (L : Int) (b : Nat → Int) : Int :=
  let w := wl_ (ok_ t L b) L.toNat
  if (w : Int) < L then (w : Int) else if L = 0 ∨ (L + 1) % (sp_ t : Int) = 0 then -1 else L
/-- how many things a text tells -/
def it_ (t : Nat) (L : Int) (b : Nat → Int) : Int := if fa_ t L b = -1 then (L + 1) / (sp_ t : Int) else 0
section
variable {l : Launch} {D : Dt_} {σ : Mm_} {post : Option Av_ → Mm_ → Prop}
theorem ct_X5_isBetween {b x z : Int} (hb : Rg_ b) (hx : Rg_ x) (hz : Rg_ z) (h : post (some (vi_ (b2_ (x ≤ b ∧ b ≤ z)))) σ) : V_ l D mX5_isBetween (CM_ D mX5_isBetween post) 0 [some (vi_ b), some (vi_ x), some (vi_ z)] [] σ := by
  refine V_iload_n (pc := 0) dX5_isBetween_0 rfl rfl ?_
  refine V_iload_n (pc := 1) dX5_isBetween_1 rfl rfl ?_
  refine V_icmp_lt (tgt := 14) (pc := 2) dX5_isBetween_2 (by decide) (by first | assumption | decide | omega | exact ba_rg hR | exact b2_rg) (by first | assumption | decide | omega | exact ba_rg hR | exact b2_rg) (fun h2 => ?_) (fun h2 => ?_)
  · skip
    refine V_iconst (pc := 14) dX5_isBetween_14 ?_
    refine V_ireturn (pc := 15) dX5_isBetween_15 rfl rfl (fun hR => ?_)
    first | (rw [b2_t (by omega)] at h; exact h) | (rw [b2_f (by omega)] at h; exact h)
  · skip
    refine V_iload_n (pc := 5) dX5_isBetween_5 rfl rfl ?_
    refine V_iload_n (pc := 6) dX5_isBetween_6 rfl rfl ?_
    refine V_icmp_gt (tgt := 14) (pc := 7) dX5_isBetween_7 (by decide) (by first | assumption | decide | omega | exact ba_rg hR | exact b2_rg) (by first | assumption | decide | omega | exact ba_rg hR | exact b2_rg) (fun h7 => ?_) (fun h7 => ?_)
    · skip
      refine V_iconst (pc := 14) dX5_isBetween_14 ?_
      refine V_ireturn (pc := 15) dX5_isBetween_15 rfl rfl (fun hR => ?_)
      first | (rw [b2_t (by omega)] at h; exact h) | (rw [b2_f (by omega)] at h; exact h)
    · skip
      refine V_iconst (pc := 10) dX5_isBetween_10 ?_
      refine V_goto (tgt := 15) (pc := 11) dX5_isBetween_11 (by decide) ?_
      refine V_ireturn (pc := 15) dX5_isBetween_15 rfl rfl (fun hR => ?_)
      first | (rw [b2_t (by omega)] at h; exact h) | (rw [b2_f (by omega)] at h; exact h)
theorem ct_X5_byteAt_1 {x : Int} (hx : Rg_ x) (hL : 0 ≤ σ 1 3 ∧ σ 1 3 ≤ 23) (h : post (some (vi_ (ba_ (σ 1 3) (σ 2) x))) σ) : V_ l D mX5_byteAt (CM_ D mX5_byteAt post) 0 [some (vr_ 1), some (vi_ x)] [] σ := by
  unfold ba_ at h
  refine V_iload_n (pc := 0) dX5_byteAt_0 rfl rfl ?_
  refine V_if_lt (tgt := 21) (pc := 1) dX5_byteAt_1 (by decide) (by first | assumption | decide | omega | exact ba_rg hR | exact b2_rg) (fun h1 => ?_) (fun h1 => ?_)
  · skip
    refine V_iconst (pc := 21) dX5_byteAt_21 ?_
    refine V_ireturn (pc := 22) dX5_byteAt_22 rfl rfl (fun hR => ?_)
    first | (rw [if_pos (by omega)] at h; exact h) | (rw [if_neg (by omega)] at h; exact h)
  · skip
    refine V_iload_n (pc := 4) dX5_byteAt_4 rfl rfl ?_
    refine V_aload_n (pc := 5) dX5_byteAt_5 rfl rfl ?_
    refine V_geti (pc := 6) dX5_byteAt_6 fX5_29 rfl gg_1 rfl (fun r6 => ?_)
    refine V_icmp_ge (tgt := 21) (pc := 9) dX5_byteAt_9 (by decide) (by first | assumption | decide | omega | exact ba_rg hR | exact b2_rg) (by first | assumption | decide | omega | exact ba_rg hR | exact b2_rg) (fun h9 => ?_) (fun h9 => ?_)
    · skip
      refine V_iconst (pc := 21) dX5_byteAt_21 ?_
      refine V_ireturn (pc := 22) dX5_byteAt_22 rfl rfl (fun hR => ?_)
      first | (rw [if_pos (by omega)] at h; exact h) | (rw [if_neg (by omega)] at h; exact h)
    · skip
      refine V_aload_n (pc := 12) dX5_byteAt_12 rfl rfl ?_
      refine V_getr (pc := 13) dX5_byteAt_13 fX5_25 rfl gg_1 rfl ?_
      refine V_iload_n (pc := 16) dX5_byteAt_16 rfl rfl ?_
      refine V_iald (pc := 17) dX5_byteAt_17 gg_2 (by first | assumption | decide | omega) (by decide) (fun r17 => ?_)
      refine V_goto (tgt := 22) (pc := 18) dX5_byteAt_18 (by decide) ?_
      refine V_ireturn (pc := 22) dX5_byteAt_22 rfl rfl (fun hR => ?_)
      first | (rw [if_pos (by omega)] at h; exact h) | (rw [if_neg (by omega)] at h; exact h)
theorem ct_X5_figureAt_1 {x : Int} (hx : Rg_ x) (hL : 0 ≤ σ 1 3 ∧ σ 1 3 ≤ 23) (h : post (some (vi_ (ba_ (σ 1 3) (σ 2) x - 48))) σ) : V_ l D mX5_figureAt (CM_ D mX5_figureAt post) 0 [some (vr_ 1), some (vi_ x)] [] σ := by
  refine V_aload_n (pc := 0) dX5_figureAt_0 rfl rfl ?_
  refine V_iload_n (pc := 1) dX5_figureAt_1 rfl rfl ?_
  refine V_callV (pc := 2) (as := [_]) (rest := []) dX5_figureAt_2 ⟨kX5_35, iX5_byteAt, by decide, by decide⟩ rc_1 rfl rfl (Nat.le_of_ble_eq_true rfl) (Nat.le_of_ble_eq_true rfl) ?_
  refine ct_X5_byteAt_1 (by first | assumption | decide | omega | exact ba_rg hR | exact b2_rg) (by assumption) ?_
  show V_ _ _ _ _ _ _ [_] _
  refine V_bipush (pc := 5) dX5_figureAt_5 (by decide) ?_
  refine V_isub (pc := 7) dX5_figureAt_7 ?_
  refine V_ireturn (pc := 8) dX5_figureAt_8 rfl rfl (fun hR => ?_)
  exact h
theorem ct_X5_figuresAt_1 {x : Int} (hx : 0 ≤ x ∧ x ≤ 1000) (hL : 0 ≤ σ 1 3 ∧ σ 1 3 ≤ 23) (h : post (some (vi_ (10 * (ba_ (σ 1 3) (σ 2) x - 48) + (ba_ (σ 1 3) (σ 2) (x + 1) - 48)))) σ) : V_ l D mX5_figuresAt (CM_ D mX5_figuresAt post) 0 [some (vr_ 1), some (vi_ x)] [] σ := by
  refine V_bipush (pc := 0) dX5_figuresAt_0 (by decide) ?_
  refine V_aload_n (pc := 2) dX5_figuresAt_2 rfl rfl ?_
  refine V_iload_n (pc := 3) dX5_figuresAt_3 rfl rfl ?_
  refine V_callV (pc := 4) (as := [_]) (rest := [_]) dX5_figuresAt_4 ⟨kX5_39, iX5_figureAt, by decide, by decide⟩ rc_1 rfl rfl (Nat.le_of_ble_eq_true rfl) (Nat.le_of_ble_eq_true rfl) ?_
  refine ct_X5_figureAt_1 ⟨by omega, by omega⟩ (by assumption) ?_
  show V_ _ _ _ _ _ _ [_, _] _
  refine V_imul (pc := 7) dX5_figuresAt_7 ?_
  refine V_aload_n (pc := 8) dX5_figuresAt_8 rfl rfl ?_
  refine V_iload_n (pc := 9) dX5_figuresAt_9 rfl rfl ?_
  refine V_iconst (pc := 10) dX5_figuresAt_10 ?_
  refine V_iadd (pc := 11) dX5_figuresAt_11 ?_
  refine V_callV (pc := 12) (as := [_]) (rest := [_]) dX5_figuresAt_12 ⟨kX5_39, iX5_figureAt, by decide, by decide⟩ rc_1 rfl rfl (Nat.le_of_ble_eq_true rfl) (Nat.le_of_ble_eq_true rfl) ?_
  refine ct_X5_figureAt_1 ⟨by omega, by omega⟩ (by assumption) ?_
  show V_ _ _ _ _ _ _ [_, _] _
  refine V_iadd (pc := 15) dX5_figuresAt_15 ?_
  refine V_ireturn (pc := 16) dX5_figuresAt_16 rfl rfl (fun hR => ?_)
  exact h
theorem ct_X5_goesOnAt_1_0 {x : Int} (hx : 0 ≤ x ∧ x ≤ 1000) (hp : x % 4 = 0) (hs : σ 1 1 = 4) (hL : 0 ≤ σ 1 3 ∧ σ 1 3 ≤ 23) (h : post (some (vi_ (b2_ (48 ≤ ba_ (σ 1 3) (σ 2) x ∧ ba_ (σ 1 3) (σ 2) x ≤ 57)))) σ) : V_ l D mX5_goesOnAt (CM_ D mX5_goesOnAt post) 0 [some (vr_ 1), some (vi_ x), none, none] [] σ := by
  refine V_rg (fun hR => ?_)
  refine V_aload_n (pc := 0) dX5_goesOnAt_0 rfl rfl ?_
  refine V_iload_n (pc := 1) dX5_goesOnAt_1 rfl rfl ?_
  refine V_callV (pc := 2) (as := [_]) (rest := []) dX5_goesOnAt_2 ⟨kX5_35, iX5_byteAt, by decide, by decide⟩ rc_1 rfl rfl (Nat.le_of_ble_eq_true rfl) (Nat.le_of_ble_eq_true rfl) ?_
  refine ct_X5_byteAt_1 ⟨by omega, by omega⟩ (by assumption) ?_
  show V_ _ _ _ _ _ _ [_] _
  refine V_istore_n (pc := 5) dX5_goesOnAt_5 rfl (by decide) rfl ?_
  show V_ _ _ _ _ _ [_, _, _, _] _ _
  refine V_iload_n (pc := 6) dX5_goesOnAt_6 rfl rfl ?_
  refine V_aload_n (pc := 7) dX5_goesOnAt_7 rfl rfl ?_
  refine V_geti (pc := 8) dX5_goesOnAt_8 fX5_21 rfl gg_1 rfl (fun r8 => ?_)
  refine V_irem (pc := 11) dX5_goesOnAt_11 (by first | assumption | decide | omega | exact ba_rg hR | exact b2_rg) (by omega) ?_
  rw [hs, irem_p (by omega) (by decide), hp]
  refine V_istore_n (pc := 12) dX5_goesOnAt_12 rfl (by decide) rfl ?_
  show V_ _ _ _ _ _ [_, _, _, _] _ _
  refine V_iload_n (pc := 13) dX5_goesOnAt_13 rfl rfl ?_
  refine V_aload_n (pc := 14) dX5_goesOnAt_14 rfl rfl ?_
  refine V_getr (pc := 15) dX5_goesOnAt_15 fX5_9 rfl gg_1 rfl ?_
  refine V_callV (pc := 18) (as := []) (rest := [_]) dX5_goesOnAt_18 ⟨kX5_15, iJ0_length_8abf5, by decide, by decide⟩ rc_100 rfl rfl (Nat.le_of_ble_eq_true rfl) (Nat.le_of_ble_eq_true rfl) ?_
  refine ct_J0_length_0 ?_
  show V_ _ _ _ _ _ _ [_, _] _
  refine V_icmp_lt (tgt := 36) (pc := 21) dX5_goesOnAt_21 (by decide) (by first | assumption | decide | omega | exact ba_rg hR | exact b2_rg) (by first | assumption | decide | omega | exact ba_rg hR | exact b2_rg) (fun h21 => ?_) (fun h21 => by omega)
  skip
  refine V_aload_n (pc := 36) dX5_goesOnAt_36 rfl rfl ?_
  refine V_getr (pc := 37) dX5_goesOnAt_37 fX5_9 rfl gg_1 rfl ?_
  refine V_iload_n (pc := 40) dX5_goesOnAt_40 rfl rfl ?_
  refine V_callV (pc := 41) (as := [_]) (rest := []) dX5_goesOnAt_41 ⟨kX5_49, iJ0_charAt_5068e, by decide, by decide⟩ rc_100 rfl rfl (Nat.le_of_ble_eq_true rfl) (Nat.le_of_ble_eq_true rfl) ?_
  refine ct_J0_charAt_0_0 ?_
  show V_ _ _ _ _ _ _ [_] _
  refine V_lookup (tgt := 104) (off := 60) (pc := 44) dX5_goesOnAt_44 (by decide) (by decide) (by decide) (by decide) ?_
  refine V_iload_n (pc := 104) dX5_goesOnAt_104 rfl rfl ?_
  refine V_bipush (pc := 105) dX5_goesOnAt_105 (by decide) ?_
  refine V_bipush (pc := 107) dX5_goesOnAt_107 (by decide) ?_
  refine V_callS (pc := 109) (as := [_, _, _]) (rest := []) dX5_goesOnAt_109 ⟨kX5_53, sX5_isBetween, by decide, by decide⟩ rfl rfl (Nat.le_of_ble_eq_true rfl) (Nat.le_of_ble_eq_true rfl) ?_
  refine ct_X5_isBetween (by first | assumption | decide | omega | exact ba_rg hR | exact b2_rg) (by first | assumption | decide | omega | exact ba_rg hR | exact b2_rg) (by first | assumption | decide | omega | exact ba_rg hR | exact b2_rg) ?_
  show V_ _ _ _ _ _ _ [_] _
  refine V_ireturn (pc := 112) dX5_goesOnAt_112 rfl b2_nar (fun hR => ?_)
  exact h
theorem ct_X5_goesOnAt_1_1 {x : Int} (hx : 0 ≤ x ∧ x ≤ 1000) (hp : x % 4 = 1) (hs : σ 1 1 = 4) (hL : 0 ≤ σ 1 3 ∧ σ 1 3 ≤ 23) (h : post (some (vi_ (b2_ ((48 ≤ ba_ (σ 1 3) (σ 2) x ∧ ba_ (σ 1 3) (σ 2) x ≤ 57) ∧ (ba_ (σ 1 3) (σ 2) x ≠ 48 ∨ ba_ (σ 1 3) (σ 2) (x - 1) ≠ 48))))) σ) : V_ l D mX5_goesOnAt (CM_ D mX5_goesOnAt post) 0 [some (vr_ 1), some (vi_ x), none, none] [] σ := by
  refine V_rg (fun hR => ?_)
  refine V_aload_n (pc := 0) dX5_goesOnAt_0 rfl rfl ?_
  refine V_iload_n (pc := 1) dX5_goesOnAt_1 rfl rfl ?_
  refine V_callV (pc := 2) (as := [_]) (rest := []) dX5_goesOnAt_2 ⟨kX5_35, iX5_byteAt, by decide, by decide⟩ rc_1 rfl rfl (Nat.le_of_ble_eq_true rfl) (Nat.le_of_ble_eq_true rfl) ?_
  refine ct_X5_byteAt_1 ⟨by omega, by omega⟩ (by assumption) ?_
  show V_ _ _ _ _ _ _ [_] _
  refine V_istore_n (pc := 5) dX5_goesOnAt_5 rfl (by decide) rfl ?_
  show V_ _ _ _ _ _ [_, _, _, _] _ _
  refine V_iload_n (pc := 6) dX5_goesOnAt_6 rfl rfl ?_
  refine V_aload_n (pc := 7) dX5_goesOnAt_7 rfl rfl ?_
  refine V_geti (pc := 8) dX5_goesOnAt_8 fX5_21 rfl gg_1 rfl (fun r8 => ?_)
  refine V_irem (pc := 11) dX5_goesOnAt_11 (by first | assumption | decide | omega | exact ba_rg hR | exact b2_rg) (by omega) ?_
  rw [hs, irem_p (by omega) (by decide), hp]
  refine V_istore_n (pc := 12) dX5_goesOnAt_12 rfl (by decide) rfl ?_
  show V_ _ _ _ _ _ [_, _, _, _] _ _
  refine V_iload_n (pc := 13) dX5_goesOnAt_13 rfl rfl ?_
  refine V_aload_n (pc := 14) dX5_goesOnAt_14 rfl rfl ?_
  refine V_getr (pc := 15) dX5_goesOnAt_15 fX5_9 rfl gg_1 rfl ?_
  refine V_callV (pc := 18) (as := []) (rest := [_]) dX5_goesOnAt_18 ⟨kX5_15, iJ0_length_8abf5, by decide, by decide⟩ rc_100 rfl rfl (Nat.le_of_ble_eq_true rfl) (Nat.le_of_ble_eq_true rfl) ?_
  refine ct_J0_length_0 ?_
  show V_ _ _ _ _ _ _ [_, _] _
  refine V_icmp_lt (tgt := 36) (pc := 21) dX5_goesOnAt_21 (by decide) (by first | assumption | decide | omega | exact ba_rg hR | exact b2_rg) (by first | assumption | decide | omega | exact ba_rg hR | exact b2_rg) (fun h21 => ?_) (fun h21 => by omega)
  skip
  refine V_aload_n (pc := 36) dX5_goesOnAt_36 rfl rfl ?_
  refine V_getr (pc := 37) dX5_goesOnAt_37 fX5_9 rfl gg_1 rfl ?_
  refine V_iload_n (pc := 40) dX5_goesOnAt_40 rfl rfl ?_
  refine V_callV (pc := 41) (as := [_]) (rest := []) dX5_goesOnAt_41 ⟨kX5_49, iJ0_charAt_5068e, by decide, by decide⟩ rc_100 rfl rfl (Nat.le_of_ble_eq_true rfl) (Nat.le_of_ble_eq_true rfl) ?_
  refine ct_J0_charAt_0_1 ?_
  show V_ _ _ _ _ _ _ [_] _
  refine V_lookup (tgt := 113) (off := 69) (pc := 44) dX5_goesOnAt_44 (by decide) (by decide) (by decide) (by decide) ?_
  refine V_iload_n (pc := 113) dX5_goesOnAt_113 rfl rfl ?_
  refine V_bipush (pc := 114) dX5_goesOnAt_114 (by decide) ?_
  refine V_bipush (pc := 116) dX5_goesOnAt_116 (by decide) ?_
  refine V_callS (pc := 118) (as := [_, _, _]) (rest := []) dX5_goesOnAt_118 ⟨kX5_53, sX5_isBetween, by decide, by decide⟩ rfl rfl (Nat.le_of_ble_eq_true rfl) (Nat.le_of_ble_eq_true rfl) ?_
  refine ct_X5_isBetween (by first | assumption | decide | omega | exact ba_rg hR | exact b2_rg) (by first | assumption | decide | omega | exact ba_rg hR | exact b2_rg) (by first | assumption | decide | omega | exact ba_rg hR | exact b2_rg) ?_
  show V_ _ _ _ _ _ _ [_] _
  refine V_if_eq (tgt := 146) (pc := 121) dX5_goesOnAt_121 (by decide) (by first | assumption | decide | omega | exact ba_rg hR | exact b2_rg) (fun h121 => ?_) (fun h121 => ?_)
  · skip
    rw [b2_0] at h121
    refine V_iconst (pc := 146) dX5_goesOnAt_146 ?_
    refine V_ireturn (pc := 147) dX5_goesOnAt_147 rfl rfl (fun hR => ?_)
    first | (rw [b2_t (by omega)] at h; exact h) | (rw [b2_f (by omega)] at h; exact h)
  · skip
    rw [b2_n0] at h121
    refine V_iload_n (pc := 124) dX5_goesOnAt_124 rfl rfl ?_
    refine V_bipush (pc := 125) dX5_goesOnAt_125 (by decide) ?_
    refine V_icmp_ne (tgt := 142) (pc := 127) dX5_goesOnAt_127 (by decide) (by first | assumption | decide | omega | exact ba_rg hR | exact b2_rg) (by first | assumption | decide | omega | exact ba_rg hR | exact b2_rg) (fun h127 => ?_) (fun h127 => ?_)
    · skip
      refine V_iconst (pc := 142) dX5_goesOnAt_142 ?_
      refine V_goto (tgt := 147) (pc := 143) dX5_goesOnAt_143 (by decide) ?_
      refine V_ireturn (pc := 147) dX5_goesOnAt_147 rfl rfl (fun hR => ?_)
      first | (rw [b2_t (by omega)] at h; exact h) | (rw [b2_f (by omega)] at h; exact h)
    · skip
      refine V_aload_n (pc := 130) dX5_goesOnAt_130 rfl rfl ?_
      refine V_iload_n (pc := 131) dX5_goesOnAt_131 rfl rfl ?_
      refine V_iconst (pc := 132) dX5_goesOnAt_132 ?_
      refine V_isub (pc := 133) dX5_goesOnAt_133 ?_
      refine V_callV (pc := 134) (as := [_]) (rest := []) dX5_goesOnAt_134 ⟨kX5_35, iX5_byteAt, by decide, by decide⟩ rc_1 rfl rfl (Nat.le_of_ble_eq_true rfl) (Nat.le_of_ble_eq_true rfl) ?_
      refine ct_X5_byteAt_1 ⟨by omega, by omega⟩ (by assumption) ?_
      show V_ _ _ _ _ _ _ [_] _
      refine V_bipush (pc := 137) dX5_goesOnAt_137 (by decide) ?_
      refine V_icmp_eq (tgt := 146) (pc := 139) dX5_goesOnAt_139 (by decide) (by first | assumption | decide | omega | exact ba_rg hR | exact b2_rg) (by first | assumption | decide | omega | exact ba_rg hR | exact b2_rg) (fun h139 => ?_) (fun h139 => ?_)
      · skip
        refine V_iconst (pc := 146) dX5_goesOnAt_146 ?_
        refine V_ireturn (pc := 147) dX5_goesOnAt_147 rfl rfl (fun hR => ?_)
        first | (rw [b2_t (by omega)] at h; exact h) | (rw [b2_f (by omega)] at h; exact h)
      · skip
        refine V_iconst (pc := 142) dX5_goesOnAt_142 ?_
        refine V_goto (tgt := 147) (pc := 143) dX5_goesOnAt_143 (by decide) ?_
        refine V_ireturn (pc := 147) dX5_goesOnAt_147 rfl rfl (fun hR => ?_)
        first | (rw [b2_t (by omega)] at h; exact h) | (rw [b2_f (by omega)] at h; exact h)
theorem ct_X5_goesOnAt_1_2 {x : Int} (hx : 0 ≤ x ∧ x ≤ 1000) (hp : x % 4 = 2) (hs : σ 1 1 = 4) (hL : 0 ≤ σ 1 3 ∧ σ 1 3 ≤ 23) (h : post (some (vi_ (b2_ (48 ≤ ba_ (σ 1 3) (σ 2) x ∧ ba_ (σ 1 3) (σ 2) x ≤ 57)))) σ) : V_ l D mX5_goesOnAt (CM_ D mX5_goesOnAt post) 0 [some (vr_ 1), some (vi_ x), none, none] [] σ := by
  refine V_rg (fun hR => ?_)
  refine V_aload_n (pc := 0) dX5_goesOnAt_0 rfl rfl ?_
  refine V_iload_n (pc := 1) dX5_goesOnAt_1 rfl rfl ?_
  refine V_callV (pc := 2) (as := [_]) (rest := []) dX5_goesOnAt_2 ⟨kX5_35, iX5_byteAt, by decide, by decide⟩ rc_1 rfl rfl (Nat.le_of_ble_eq_true rfl) (Nat.le_of_ble_eq_true rfl) ?_
  refine ct_X5_byteAt_1 ⟨by omega, by omega⟩ (by assumption) ?_
  show V_ _ _ _ _ _ _ [_] _
  refine V_istore_n (pc := 5) dX5_goesOnAt_5 rfl (by decide) rfl ?_
  show V_ _ _ _ _ _ [_, _, _, _] _ _
  refine V_iload_n (pc := 6) dX5_goesOnAt_6 rfl rfl ?_
  refine V_aload_n (pc := 7) dX5_goesOnAt_7 rfl rfl ?_
  refine V_geti (pc := 8) dX5_goesOnAt_8 fX5_21 rfl gg_1 rfl (fun r8 => ?_)
  refine V_irem (pc := 11) dX5_goesOnAt_11 (by first | assumption | decide | omega | exact ba_rg hR | exact b2_rg) (by omega) ?_
  rw [hs, irem_p (by omega) (by decide), hp]
  refine V_istore_n (pc := 12) dX5_goesOnAt_12 rfl (by decide) rfl ?_
  show V_ _ _ _ _ _ [_, _, _, _] _ _
  refine V_iload_n (pc := 13) dX5_goesOnAt_13 rfl rfl ?_
  refine V_aload_n (pc := 14) dX5_goesOnAt_14 rfl rfl ?_
  refine V_getr (pc := 15) dX5_goesOnAt_15 fX5_9 rfl gg_1 rfl ?_
  refine V_callV (pc := 18) (as := []) (rest := [_]) dX5_goesOnAt_18 ⟨kX5_15, iJ0_length_8abf5, by decide, by decide⟩ rc_100 rfl rfl (Nat.le_of_ble_eq_true rfl) (Nat.le_of_ble_eq_true rfl) ?_
  refine ct_J0_length_0 ?_
  show V_ _ _ _ _ _ _ [_, _] _
  refine V_icmp_lt (tgt := 36) (pc := 21) dX5_goesOnAt_21 (by decide) (by first | assumption | decide | omega | exact ba_rg hR | exact b2_rg) (by first | assumption | decide | omega | exact ba_rg hR | exact b2_rg) (fun h21 => ?_) (fun h21 => by omega)
  skip
  refine V_aload_n (pc := 36) dX5_goesOnAt_36 rfl rfl ?_
  refine V_getr (pc := 37) dX5_goesOnAt_37 fX5_9 rfl gg_1 rfl ?_
  refine V_iload_n (pc := 40) dX5_goesOnAt_40 rfl rfl ?_
  refine V_callV (pc := 41) (as := [_]) (rest := []) dX5_goesOnAt_41 ⟨kX5_49, iJ0_charAt_5068e, by decide, by decide⟩ rc_100 rfl rfl (Nat.le_of_ble_eq_true rfl) (Nat.le_of_ble_eq_true rfl) ?_
  refine ct_J0_charAt_0_2 ?_
  show V_ _ _ _ _ _ _ [_] _
  refine V_lookup (tgt := 104) (off := 60) (pc := 44) dX5_goesOnAt_44 (by decide) (by decide) (by decide) (by decide) ?_
  refine V_iload_n (pc := 104) dX5_goesOnAt_104 rfl rfl ?_
  refine V_bipush (pc := 105) dX5_goesOnAt_105 (by decide) ?_
  refine V_bipush (pc := 107) dX5_goesOnAt_107 (by decide) ?_
  refine V_callS (pc := 109) (as := [_, _, _]) (rest := []) dX5_goesOnAt_109 ⟨kX5_53, sX5_isBetween, by decide, by decide⟩ rfl rfl (Nat.le_of_ble_eq_true rfl) (Nat.le_of_ble_eq_true rfl) ?_
  refine ct_X5_isBetween (by first | assumption | decide | omega | exact ba_rg hR | exact b2_rg) (by first | assumption | decide | omega | exact ba_rg hR | exact b2_rg) (by first | assumption | decide | omega | exact ba_rg hR | exact b2_rg) ?_
  show V_ _ _ _ _ _ _ [_] _
  refine V_ireturn (pc := 112) dX5_goesOnAt_112 rfl b2_nar (fun hR => ?_)
  exact h
theorem ct_X5_goesOnAt_1_3 {x : Int} (hx : 0 ≤ x ∧ x ≤ 1000) (hp : x % 4 = 3) (hs : σ 1 1 = 4) (hL : 0 ≤ σ 1 3 ∧ σ 1 3 ≤ 23) (h : post (some (vi_ (b2_ (ba_ (σ 1 3) (σ 2) x = 59)))) σ) : V_ l D mX5_goesOnAt (CM_ D mX5_goesOnAt post) 0 [some (vr_ 1), some (vi_ x), none, none] [] σ := by
  refine V_rg (fun hR => ?_)
  refine V_aload_n (pc := 0) dX5_goesOnAt_0 rfl rfl ?_
  refine V_iload_n (pc := 1) dX5_goesOnAt_1 rfl rfl ?_
  refine V_callV (pc := 2) (as := [_]) (rest := []) dX5_goesOnAt_2 ⟨kX5_35, iX5_byteAt, by decide, by decide⟩ rc_1 rfl rfl (Nat.le_of_ble_eq_true rfl) (Nat.le_of_ble_eq_true rfl) ?_
  refine ct_X5_byteAt_1 ⟨by omega, by omega⟩ (by assumption) ?_
  show V_ _ _ _ _ _ _ [_] _
  refine V_istore_n (pc := 5) dX5_goesOnAt_5 rfl (by decide) rfl ?_
  show V_ _ _ _ _ _ [_, _, _, _] _ _
  refine V_iload_n (pc := 6) dX5_goesOnAt_6 rfl rfl ?_
  refine V_aload_n (pc := 7) dX5_goesOnAt_7 rfl rfl ?_
  refine V_geti (pc := 8) dX5_goesOnAt_8 fX5_21 rfl gg_1 rfl (fun r8 => ?_)
  refine V_irem (pc := 11) dX5_goesOnAt_11 (by first | assumption | decide | omega | exact ba_rg hR | exact b2_rg) (by omega) ?_
  rw [hs, irem_p (by omega) (by decide), hp]
  refine V_istore_n (pc := 12) dX5_goesOnAt_12 rfl (by decide) rfl ?_
  show V_ _ _ _ _ _ [_, _, _, _] _ _
  refine V_iload_n (pc := 13) dX5_goesOnAt_13 rfl rfl ?_
  refine V_aload_n (pc := 14) dX5_goesOnAt_14 rfl rfl ?_
  refine V_getr (pc := 15) dX5_goesOnAt_15 fX5_9 rfl gg_1 rfl ?_
  refine V_callV (pc := 18) (as := []) (rest := [_]) dX5_goesOnAt_18 ⟨kX5_15, iJ0_length_8abf5, by decide, by decide⟩ rc_100 rfl rfl (Nat.le_of_ble_eq_true rfl) (Nat.le_of_ble_eq_true rfl) ?_
  refine ct_J0_length_0 ?_
  show V_ _ _ _ _ _ _ [_, _] _
  refine V_icmp_lt (tgt := 36) (pc := 21) dX5_goesOnAt_21 (by decide) (by first | assumption | decide | omega | exact ba_rg hR | exact b2_rg) (by first | assumption | decide | omega | exact ba_rg hR | exact b2_rg) (fun h21 => by omega) (fun h21 => ?_)
  skip
  refine V_iload_n (pc := 24) dX5_goesOnAt_24 rfl rfl ?_
  refine V_bipush (pc := 25) dX5_goesOnAt_25 (by decide) ?_
  refine V_icmp_ne (tgt := 34) (pc := 27) dX5_goesOnAt_27 (by decide) (by first | assumption | decide | omega | exact ba_rg hR | exact b2_rg) (by first | assumption | decide | omega | exact ba_rg hR | exact b2_rg) (fun h27 => ?_) (fun h27 => ?_)
  · skip
    refine V_iconst (pc := 34) dX5_goesOnAt_34 ?_
    refine V_ireturn (pc := 35) dX5_goesOnAt_35 rfl rfl (fun hR => ?_)
    first | (rw [b2_t (by omega)] at h; exact h) | (rw [b2_f (by omega)] at h; exact h)
  · skip
    refine V_iconst (pc := 30) dX5_goesOnAt_30 ?_
    refine V_goto (tgt := 35) (pc := 31) dX5_goesOnAt_31 (by decide) ?_
    refine V_ireturn (pc := 35) dX5_goesOnAt_35 rfl rfl (fun hR => ?_)
    first | (rw [b2_t (by omega)] at h; exact h) | (rw [b2_f (by omega)] at h; exact h)
theorem ct_X5_byteAt_3 {x : Int} (hx : Rg_ x) (hL : 0 ≤ σ 3 3 ∧ σ 3 3 ≤ 39) (h : post (some (vi_ (ba_ (σ 3 3) (σ 4) x))) σ) : V_ l D mX5_byteAt (CM_ D mX5_byteAt post) 0 [some (vr_ 3), some (vi_ x)] [] σ := by
  unfold ba_ at h
  refine V_iload_n (pc := 0) dX5_byteAt_0 rfl rfl ?_
  refine V_if_lt (tgt := 21) (pc := 1) dX5_byteAt_1 (by decide) (by first | assumption | decide | omega | exact ba_rg hR | exact b2_rg) (fun h1 => ?_) (fun h1 => ?_)
  · skip
    refine V_iconst (pc := 21) dX5_byteAt_21 ?_
    refine V_ireturn (pc := 22) dX5_byteAt_22 rfl rfl (fun hR => ?_)
    first | (rw [if_pos (by omega)] at h; exact h) | (rw [if_neg (by omega)] at h; exact h)
  · skip
    refine V_iload_n (pc := 4) dX5_byteAt_4 rfl rfl ?_
    refine V_aload_n (pc := 5) dX5_byteAt_5 rfl rfl ?_
    refine V_geti (pc := 6) dX5_byteAt_6 fX5_29 rfl gg_3 rfl (fun r6 => ?_)
    refine V_icmp_ge (tgt := 21) (pc := 9) dX5_byteAt_9 (by decide) (by first | assumption | decide | omega | exact ba_rg hR | exact b2_rg) (by first | assumption | decide | omega | exact ba_rg hR | exact b2_rg) (fun h9 => ?_) (fun h9 => ?_)
    · skip
      refine V_iconst (pc := 21) dX5_byteAt_21 ?_
      refine V_ireturn (pc := 22) dX5_byteAt_22 rfl rfl (fun hR => ?_)
      first | (rw [if_pos (by omega)] at h; exact h) | (rw [if_neg (by omega)] at h; exact h)
    · skip
      refine V_aload_n (pc := 12) dX5_byteAt_12 rfl rfl ?_
      refine V_getr (pc := 13) dX5_byteAt_13 fX5_25 rfl gg_3 rfl ?_
      refine V_iload_n (pc := 16) dX5_byteAt_16 rfl rfl ?_
      refine V_iald (pc := 17) dX5_byteAt_17 gg_4 (by first | assumption | decide | omega) (by decide) (fun r17 => ?_)
      refine V_goto (tgt := 22) (pc := 18) dX5_byteAt_18 (by decide) ?_
      refine V_ireturn (pc := 22) dX5_byteAt_22 rfl rfl (fun hR => ?_)
      first | (rw [if_pos (by omega)] at h; exact h) | (rw [if_neg (by omega)] at h; exact h)
theorem ct_X5_figureAt_3 {x : Int} (hx : Rg_ x) (hL : 0 ≤ σ 3 3 ∧ σ 3 3 ≤ 39) (h : post (some (vi_ (ba_ (σ 3 3) (σ 4) x - 48))) σ) : V_ l D mX5_figureAt (CM_ D mX5_figureAt post) 0 [some (vr_ 3), some (vi_ x)] [] σ := by
  refine V_aload_n (pc := 0) dX5_figureAt_0 rfl rfl ?_
  refine V_iload_n (pc := 1) dX5_figureAt_1 rfl rfl ?_
  refine V_callV (pc := 2) (as := [_]) (rest := []) dX5_figureAt_2 ⟨kX5_35, iX5_byteAt, by decide, by decide⟩ rc_3 rfl rfl (Nat.le_of_ble_eq_true rfl) (Nat.le_of_ble_eq_true rfl) ?_
  refine ct_X5_byteAt_3 (by first | assumption | decide | omega | exact ba_rg hR | exact b2_rg) (by assumption) ?_
  show V_ _ _ _ _ _ _ [_] _
  refine V_bipush (pc := 5) dX5_figureAt_5 (by decide) ?_
  refine V_isub (pc := 7) dX5_figureAt_7 ?_
  refine V_ireturn (pc := 8) dX5_figureAt_8 rfl rfl (fun hR => ?_)
  exact h
theorem ct_X5_figuresAt_3 {x : Int} (hx : 0 ≤ x ∧ x ≤ 1000) (hL : 0 ≤ σ 3 3 ∧ σ 3 3 ≤ 39) (h : post (some (vi_ (10 * (ba_ (σ 3 3) (σ 4) x - 48) + (ba_ (σ 3 3) (σ 4) (x + 1) - 48)))) σ) : V_ l D mX5_figuresAt (CM_ D mX5_figuresAt post) 0 [some (vr_ 3), some (vi_ x)] [] σ := by
  refine V_bipush (pc := 0) dX5_figuresAt_0 (by decide) ?_
  refine V_aload_n (pc := 2) dX5_figuresAt_2 rfl rfl ?_
  refine V_iload_n (pc := 3) dX5_figuresAt_3 rfl rfl ?_
  refine V_callV (pc := 4) (as := [_]) (rest := [_]) dX5_figuresAt_4 ⟨kX5_39, iX5_figureAt, by decide, by decide⟩ rc_3 rfl rfl (Nat.le_of_ble_eq_true rfl) (Nat.le_of_ble_eq_true rfl) ?_
  refine ct_X5_figureAt_3 ⟨by omega, by omega⟩ (by assumption) ?_
  show V_ _ _ _ _ _ _ [_, _] _
  refine V_imul (pc := 7) dX5_figuresAt_7 ?_
  refine V_aload_n (pc := 8) dX5_figuresAt_8 rfl rfl ?_
  refine V_iload_n (pc := 9) dX5_figuresAt_9 rfl rfl ?_
  refine V_iconst (pc := 10) dX5_figuresAt_10 ?_
  refine V_iadd (pc := 11) dX5_figuresAt_11 ?_
  refine V_callV (pc := 12) (as := [_]) (rest := [_]) dX5_figuresAt_12 ⟨kX5_39, iX5_figureAt, by decide, by decide⟩ rc_3 rfl rfl (Nat.le_of_ble_eq_true rfl) (Nat.le_of_ble_eq_true rfl) ?_
  refine ct_X5_figureAt_3 ⟨by omega, by omega⟩ (by assumption) ?_
  show V_ _ _ _ _ _ _ [_, _] _
  refine V_iadd (pc := 15) dX5_figuresAt_15 ?_
  refine V_ireturn (pc := 16) dX5_figuresAt_16 rfl rfl (fun hR => ?_)
  exact h
theorem ct_X5_goesOnAt_3_0 {x : Int} (hx : 0 ≤ x ∧ x ≤ 1000) (hp : x % 5 = 0) (hs : σ 3 1 = 5) (hL : 0 ≤ σ 3 3 ∧ σ 3 3 ≤ 39) (h : post (some (vi_ (b2_ (48 ≤ ba_ (σ 3 3) (σ 4) x ∧ ba_ (σ 3 3) (σ 4) x ≤ 57)))) σ) : V_ l D mX5_goesOnAt (CM_ D mX5_goesOnAt post) 0 [some (vr_ 3), some (vi_ x), none, none] [] σ := by
  refine V_rg (fun hR => ?_)
  refine V_aload_n (pc := 0) dX5_goesOnAt_0 rfl rfl ?_
  refine V_iload_n (pc := 1) dX5_goesOnAt_1 rfl rfl ?_
  refine V_callV (pc := 2) (as := [_]) (rest := []) dX5_goesOnAt_2 ⟨kX5_35, iX5_byteAt, by decide, by decide⟩ rc_3 rfl rfl (Nat.le_of_ble_eq_true rfl) (Nat.le_of_ble_eq_true rfl) ?_
  refine ct_X5_byteAt_3 ⟨by omega, by omega⟩ (by assumption) ?_
  show V_ _ _ _ _ _ _ [_] _
  refine V_istore_n (pc := 5) dX5_goesOnAt_5 rfl (by decide) rfl ?_
  show V_ _ _ _ _ _ [_, _, _, _] _ _
  refine V_iload_n (pc := 6) dX5_goesOnAt_6 rfl rfl ?_
  refine V_aload_n (pc := 7) dX5_goesOnAt_7 rfl rfl ?_
  refine V_geti (pc := 8) dX5_goesOnAt_8 fX5_21 rfl gg_3 rfl (fun r8 => ?_)
  refine V_irem (pc := 11) dX5_goesOnAt_11 (by first | assumption | decide | omega | exact ba_rg hR | exact b2_rg) (by omega) ?_
  rw [hs, irem_p (by omega) (by decide), hp]
  refine V_istore_n (pc := 12) dX5_goesOnAt_12 rfl (by decide) rfl ?_
  show V_ _ _ _ _ _ [_, _, _, _] _ _
  refine V_iload_n (pc := 13) dX5_goesOnAt_13 rfl rfl ?_
  refine V_aload_n (pc := 14) dX5_goesOnAt_14 rfl rfl ?_
  refine V_getr (pc := 15) dX5_goesOnAt_15 fX5_9 rfl gg_3 rfl ?_
  refine V_callV (pc := 18) (as := []) (rest := [_]) dX5_goesOnAt_18 ⟨kX5_15, iJ0_length_8abf5, by decide, by decide⟩ rc_101 rfl rfl (Nat.le_of_ble_eq_true rfl) (Nat.le_of_ble_eq_true rfl) ?_
  refine ct_J0_length_1 ?_
  show V_ _ _ _ _ _ _ [_, _] _
  refine V_icmp_lt (tgt := 36) (pc := 21) dX5_goesOnAt_21 (by decide) (by first | assumption | decide | omega | exact ba_rg hR | exact b2_rg) (by first | assumption | decide | omega | exact ba_rg hR | exact b2_rg) (fun h21 => ?_) (fun h21 => by omega)
  skip
  refine V_aload_n (pc := 36) dX5_goesOnAt_36 rfl rfl ?_
  refine V_getr (pc := 37) dX5_goesOnAt_37 fX5_9 rfl gg_3 rfl ?_
  refine V_iload_n (pc := 40) dX5_goesOnAt_40 rfl rfl ?_
  refine V_callV (pc := 41) (as := [_]) (rest := []) dX5_goesOnAt_41 ⟨kX5_49, iJ0_charAt_5068e, by decide, by decide⟩ rc_101 rfl rfl (Nat.le_of_ble_eq_true rfl) (Nat.le_of_ble_eq_true rfl) ?_
  refine ct_J0_charAt_1_0 ?_
  show V_ _ _ _ _ _ _ [_] _
  refine V_lookup (tgt := 104) (off := 60) (pc := 44) dX5_goesOnAt_44 (by decide) (by decide) (by decide) (by decide) ?_
  refine V_iload_n (pc := 104) dX5_goesOnAt_104 rfl rfl ?_
  refine V_bipush (pc := 105) dX5_goesOnAt_105 (by decide) ?_
  refine V_bipush (pc := 107) dX5_goesOnAt_107 (by decide) ?_
  refine V_callS (pc := 109) (as := [_, _, _]) (rest := []) dX5_goesOnAt_109 ⟨kX5_53, sX5_isBetween, by decide, by decide⟩ rfl rfl (Nat.le_of_ble_eq_true rfl) (Nat.le_of_ble_eq_true rfl) ?_
  refine ct_X5_isBetween (by first | assumption | decide | omega | exact ba_rg hR | exact b2_rg) (by first | assumption | decide | omega | exact ba_rg hR | exact b2_rg) (by first | assumption | decide | omega | exact ba_rg hR | exact b2_rg) ?_
  show V_ _ _ _ _ _ _ [_] _
  refine V_ireturn (pc := 112) dX5_goesOnAt_112 rfl b2_nar (fun hR => ?_)
  exact h
theorem ct_X5_goesOnAt_3_1 {x : Int} (hx : 0 ≤ x ∧ x ≤ 1000) (hp : x % 5 = 1) (hs : σ 3 1 = 5) (hL : 0 ≤ σ 3 3 ∧ σ 3 3 ≤ 39) (h : post (some (vi_ (b2_ (48 ≤ ba_ (σ 3 3) (σ 4) x ∧ ba_ (σ 3 3) (σ 4) x ≤ 57)))) σ) : V_ l D mX5_goesOnAt (CM_ D mX5_goesOnAt post) 0 [some (vr_ 3), some (vi_ x), none, none] [] σ := by
  refine V_rg (fun hR => ?_)
  refine V_aload_n (pc := 0) dX5_goesOnAt_0 rfl rfl ?_
  refine V_iload_n (pc := 1) dX5_goesOnAt_1 rfl rfl ?_
  refine V_callV (pc := 2) (as := [_]) (rest := []) dX5_goesOnAt_2 ⟨kX5_35, iX5_byteAt, by decide, by decide⟩ rc_3 rfl rfl (Nat.le_of_ble_eq_true rfl) (Nat.le_of_ble_eq_true rfl) ?_
  refine ct_X5_byteAt_3 ⟨by omega, by omega⟩ (by assumption) ?_
  show V_ _ _ _ _ _ _ [_] _
  refine V_istore_n (pc := 5) dX5_goesOnAt_5 rfl (by decide) rfl ?_
  show V_ _ _ _ _ _ [_, _, _, _] _ _
  refine V_iload_n (pc := 6) dX5_goesOnAt_6 rfl rfl ?_
  refine V_aload_n (pc := 7) dX5_goesOnAt_7 rfl rfl ?_
  refine V_geti (pc := 8) dX5_goesOnAt_8 fX5_21 rfl gg_3 rfl (fun r8 => ?_)
  refine V_irem (pc := 11) dX5_goesOnAt_11 (by first | assumption | decide | omega | exact ba_rg hR | exact b2_rg) (by omega) ?_
  rw [hs, irem_p (by omega) (by decide), hp]
  refine V_istore_n (pc := 12) dX5_goesOnAt_12 rfl (by decide) rfl ?_
  show V_ _ _ _ _ _ [_, _, _, _] _ _
  refine V_iload_n (pc := 13) dX5_goesOnAt_13 rfl rfl ?_
  refine V_aload_n (pc := 14) dX5_goesOnAt_14 rfl rfl ?_
  refine V_getr (pc := 15) dX5_goesOnAt_15 fX5_9 rfl gg_3 rfl ?_
  refine V_callV (pc := 18) (as := []) (rest := [_]) dX5_goesOnAt_18 ⟨kX5_15, iJ0_length_8abf5, by decide, by decide⟩ rc_101 rfl rfl (Nat.le_of_ble_eq_true rfl) (Nat.le_of_ble_eq_true rfl) ?_
  refine ct_J0_length_1 ?_
  show V_ _ _ _ _ _ _ [_, _] _
  refine V_icmp_lt (tgt := 36) (pc := 21) dX5_goesOnAt_21 (by decide) (by first | assumption | decide | omega | exact ba_rg hR | exact b2_rg) (by first | assumption | decide | omega | exact ba_rg hR | exact b2_rg) (fun h21 => ?_) (fun h21 => by omega)
  skip
  refine V_aload_n (pc := 36) dX5_goesOnAt_36 rfl rfl ?_
  refine V_getr (pc := 37) dX5_goesOnAt_37 fX5_9 rfl gg_3 rfl ?_
  refine V_iload_n (pc := 40) dX5_goesOnAt_40 rfl rfl ?_
  refine V_callV (pc := 41) (as := [_]) (rest := []) dX5_goesOnAt_41 ⟨kX5_49, iJ0_charAt_5068e, by decide, by decide⟩ rc_101 rfl rfl (Nat.le_of_ble_eq_true rfl) (Nat.le_of_ble_eq_true rfl) ?_
  refine ct_J0_charAt_1_1 ?_
  show V_ _ _ _ _ _ _ [_] _
  refine V_lookup (tgt := 104) (off := 60) (pc := 44) dX5_goesOnAt_44 (by decide) (by decide) (by decide) (by decide) ?_
  refine V_iload_n (pc := 104) dX5_goesOnAt_104 rfl rfl ?_
  refine V_bipush (pc := 105) dX5_goesOnAt_105 (by decide) ?_
  refine V_bipush (pc := 107) dX5_goesOnAt_107 (by decide) ?_
  refine V_callS (pc := 109) (as := [_, _, _]) (rest := []) dX5_goesOnAt_109 ⟨kX5_53, sX5_isBetween, by decide, by decide⟩ rfl rfl (Nat.le_of_ble_eq_true rfl) (Nat.le_of_ble_eq_true rfl) ?_
  refine ct_X5_isBetween (by first | assumption | decide | omega | exact ba_rg hR | exact b2_rg) (by first | assumption | decide | omega | exact ba_rg hR | exact b2_rg) (by first | assumption | decide | omega | exact ba_rg hR | exact b2_rg) ?_
  show V_ _ _ _ _ _ _ [_] _
  refine V_ireturn (pc := 112) dX5_goesOnAt_112 rfl b2_nar (fun hR => ?_)
  exact h
theorem ct_X5_goesOnAt_3_2 {x : Int} (hx : 0 ≤ x ∧ x ≤ 1000) (hp : x % 5 = 2) (hs : σ 3 1 = 5) (hL : 0 ≤ σ 3 3 ∧ σ 3 3 ≤ 39) (h : post (some (vi_ (b2_ (ba_ (σ 3 3) (σ 4) x = 108 ∨ ba_ (σ 3 3) (σ 4) x = 100)))) σ) : V_ l D mX5_goesOnAt (CM_ D mX5_goesOnAt post) 0 [some (vr_ 3), some (vi_ x), none, none] [] σ := by
  refine V_rg (fun hR => ?_)
  refine V_aload_n (pc := 0) dX5_goesOnAt_0 rfl rfl ?_
  refine V_iload_n (pc := 1) dX5_goesOnAt_1 rfl rfl ?_
  refine V_callV (pc := 2) (as := [_]) (rest := []) dX5_goesOnAt_2 ⟨kX5_35, iX5_byteAt, by decide, by decide⟩ rc_3 rfl rfl (Nat.le_of_ble_eq_true rfl) (Nat.le_of_ble_eq_true rfl) ?_
  refine ct_X5_byteAt_3 ⟨by omega, by omega⟩ (by assumption) ?_
  show V_ _ _ _ _ _ _ [_] _
  refine V_istore_n (pc := 5) dX5_goesOnAt_5 rfl (by decide) rfl ?_
  show V_ _ _ _ _ _ [_, _, _, _] _ _
  refine V_iload_n (pc := 6) dX5_goesOnAt_6 rfl rfl ?_
  refine V_aload_n (pc := 7) dX5_goesOnAt_7 rfl rfl ?_
  refine V_geti (pc := 8) dX5_goesOnAt_8 fX5_21 rfl gg_3 rfl (fun r8 => ?_)
  refine V_irem (pc := 11) dX5_goesOnAt_11 (by first | assumption | decide | omega | exact ba_rg hR | exact b2_rg) (by omega) ?_
  rw [hs, irem_p (by omega) (by decide), hp]
  refine V_istore_n (pc := 12) dX5_goesOnAt_12 rfl (by decide) rfl ?_
  show V_ _ _ _ _ _ [_, _, _, _] _ _
  refine V_iload_n (pc := 13) dX5_goesOnAt_13 rfl rfl ?_
  refine V_aload_n (pc := 14) dX5_goesOnAt_14 rfl rfl ?_
  refine V_getr (pc := 15) dX5_goesOnAt_15 fX5_9 rfl gg_3 rfl ?_
  refine V_callV (pc := 18) (as := []) (rest := [_]) dX5_goesOnAt_18 ⟨kX5_15, iJ0_length_8abf5, by decide, by decide⟩ rc_101 rfl rfl (Nat.le_of_ble_eq_true rfl) (Nat.le_of_ble_eq_true rfl) ?_
  refine ct_J0_length_1 ?_
  show V_ _ _ _ _ _ _ [_, _] _
  refine V_icmp_lt (tgt := 36) (pc := 21) dX5_goesOnAt_21 (by decide) (by first | assumption | decide | omega | exact ba_rg hR | exact b2_rg) (by first | assumption | decide | omega | exact ba_rg hR | exact b2_rg) (fun h21 => ?_) (fun h21 => by omega)
  skip
  refine V_aload_n (pc := 36) dX5_goesOnAt_36 rfl rfl ?_
  refine V_getr (pc := 37) dX5_goesOnAt_37 fX5_9 rfl gg_3 rfl ?_
  refine V_iload_n (pc := 40) dX5_goesOnAt_40 rfl rfl ?_
  refine V_callV (pc := 41) (as := [_]) (rest := []) dX5_goesOnAt_41 ⟨kX5_49, iJ0_charAt_5068e, by decide, by decide⟩ rc_101 rfl rfl (Nat.le_of_ble_eq_true rfl) (Nat.le_of_ble_eq_true rfl) ?_
  refine ct_J0_charAt_1_2 ?_
  show V_ _ _ _ _ _ _ [_] _
  refine V_lookup (tgt := 166) (off := 122) (pc := 44) dX5_goesOnAt_44 (by decide) (by decide) (by decide) (by decide) ?_
  refine V_iload_n (pc := 166) dX5_goesOnAt_166 rfl rfl ?_
  refine V_bipush (pc := 167) dX5_goesOnAt_167 (by decide) ?_
  refine V_icmp_eq (tgt := 178) (pc := 169) dX5_goesOnAt_169 (by decide) (by first | assumption | decide | omega | exact ba_rg hR | exact b2_rg) (by first | assumption | decide | omega | exact ba_rg hR | exact b2_rg) (fun h169 => ?_) (fun h169 => ?_)
  · skip
    refine V_iconst (pc := 178) dX5_goesOnAt_178 ?_
    refine V_goto (tgt := 183) (pc := 179) dX5_goesOnAt_179 (by decide) ?_
    refine V_ireturn (pc := 183) dX5_goesOnAt_183 rfl rfl (fun hR => ?_)
    first | (rw [b2_t (by omega)] at h; exact h) | (rw [b2_f (by omega)] at h; exact h)
  · skip
    refine V_iload_n (pc := 172) dX5_goesOnAt_172 rfl rfl ?_
    refine V_bipush (pc := 173) dX5_goesOnAt_173 (by decide) ?_
    refine V_icmp_ne (tgt := 182) (pc := 175) dX5_goesOnAt_175 (by decide) (by first | assumption | decide | omega | exact ba_rg hR | exact b2_rg) (by first | assumption | decide | omega | exact ba_rg hR | exact b2_rg) (fun h175 => ?_) (fun h175 => ?_)
    · skip
      refine V_iconst (pc := 182) dX5_goesOnAt_182 ?_
      refine V_ireturn (pc := 183) dX5_goesOnAt_183 rfl rfl (fun hR => ?_)
      first | (rw [b2_t (by omega)] at h; exact h) | (rw [b2_f (by omega)] at h; exact h)
    · skip
      refine V_iconst (pc := 178) dX5_goesOnAt_178 ?_
      refine V_goto (tgt := 183) (pc := 179) dX5_goesOnAt_179 (by decide) ?_
      refine V_ireturn (pc := 183) dX5_goesOnAt_183 rfl rfl (fun hR => ?_)
      first | (rw [b2_t (by omega)] at h; exact h) | (rw [b2_f (by omega)] at h; exact h)
theorem ct_X5_goesOnAt_3_3 {x : Int} (hx : 0 ≤ x ∧ x ≤ 1000) (hp : x % 5 = 3) (hs : σ 3 1 = 5) (hL : 0 ≤ σ 3 3 ∧ σ 3 3 ≤ 39) (h : post (some (vi_ (b2_ (ba_ (σ 3 3) (σ 4) x = 46 ∨ (97 ≤ ba_ (σ 3 3) (σ 4) x ∧ ba_ (σ 3 3) (σ 4) x ≤ 104))))) σ) : V_ l D mX5_goesOnAt (CM_ D mX5_goesOnAt post) 0 [some (vr_ 3), some (vi_ x), none, none] [] σ := by
  refine V_rg (fun hR => ?_)
  refine V_aload_n (pc := 0) dX5_goesOnAt_0 rfl rfl ?_
  refine V_iload_n (pc := 1) dX5_goesOnAt_1 rfl rfl ?_
  refine V_callV (pc := 2) (as := [_]) (rest := []) dX5_goesOnAt_2 ⟨kX5_35, iX5_byteAt, by decide, by decide⟩ rc_3 rfl rfl (Nat.le_of_ble_eq_true rfl) (Nat.le_of_ble_eq_true rfl) ?_
  refine ct_X5_byteAt_3 ⟨by omega, by omega⟩ (by assumption) ?_
  show V_ _ _ _ _ _ _ [_] _
  refine V_istore_n (pc := 5) dX5_goesOnAt_5 rfl (by decide) rfl ?_
  show V_ _ _ _ _ _ [_, _, _, _] _ _
  refine V_iload_n (pc := 6) dX5_goesOnAt_6 rfl rfl ?_
  refine V_aload_n (pc := 7) dX5_goesOnAt_7 rfl rfl ?_
  refine V_geti (pc := 8) dX5_goesOnAt_8 fX5_21 rfl gg_3 rfl (fun r8 => ?_)
  refine V_irem (pc := 11) dX5_goesOnAt_11 (by first | assumption | decide | omega | exact ba_rg hR | exact b2_rg) (by omega) ?_
  rw [hs, irem_p (by omega) (by decide), hp]
  refine V_istore_n (pc := 12) dX5_goesOnAt_12 rfl (by decide) rfl ?_
  show V_ _ _ _ _ _ [_, _, _, _] _ _
  refine V_iload_n (pc := 13) dX5_goesOnAt_13 rfl rfl ?_
  refine V_aload_n (pc := 14) dX5_goesOnAt_14 rfl rfl ?_
  refine V_getr (pc := 15) dX5_goesOnAt_15 fX5_9 rfl gg_3 rfl ?_
  refine V_callV (pc := 18) (as := []) (rest := [_]) dX5_goesOnAt_18 ⟨kX5_15, iJ0_length_8abf5, by decide, by decide⟩ rc_101 rfl rfl (Nat.le_of_ble_eq_true rfl) (Nat.le_of_ble_eq_true rfl) ?_
  refine ct_J0_length_1 ?_
  show V_ _ _ _ _ _ _ [_, _] _
  refine V_icmp_lt (tgt := 36) (pc := 21) dX5_goesOnAt_21 (by decide) (by first | assumption | decide | omega | exact ba_rg hR | exact b2_rg) (by first | assumption | decide | omega | exact ba_rg hR | exact b2_rg) (fun h21 => ?_) (fun h21 => by omega)
  skip
  refine V_aload_n (pc := 36) dX5_goesOnAt_36 rfl rfl ?_
  refine V_getr (pc := 37) dX5_goesOnAt_37 fX5_9 rfl gg_3 rfl ?_
  refine V_iload_n (pc := 40) dX5_goesOnAt_40 rfl rfl ?_
  refine V_callV (pc := 41) (as := [_]) (rest := []) dX5_goesOnAt_41 ⟨kX5_49, iJ0_charAt_5068e, by decide, by decide⟩ rc_101 rfl rfl (Nat.le_of_ble_eq_true rfl) (Nat.le_of_ble_eq_true rfl) ?_
  refine ct_J0_charAt_1_3 ?_
  show V_ _ _ _ _ _ _ [_] _
  refine V_lookup (tgt := 184) (off := 140) (pc := 44) dX5_goesOnAt_44 (by decide) (by decide) (by decide) (by decide) ?_
  refine V_iload_n (pc := 184) dX5_goesOnAt_184 rfl rfl ?_
  refine V_bipush (pc := 185) dX5_goesOnAt_185 (by decide) ?_
  refine V_icmp_eq (tgt := 201) (pc := 187) dX5_goesOnAt_187 (by decide) (by first | assumption | decide | omega | exact ba_rg hR | exact b2_rg) (by first | assumption | decide | omega | exact ba_rg hR | exact b2_rg) (fun h187 => ?_) (fun h187 => ?_)
  · skip
    refine V_iconst (pc := 201) dX5_goesOnAt_201 ?_
    refine V_goto (tgt := 206) (pc := 202) dX5_goesOnAt_202 (by decide) ?_
    refine V_ireturn (pc := 206) dX5_goesOnAt_206 rfl rfl (fun hR => ?_)
    first | (rw [b2_t (by omega)] at h; exact h) | (rw [b2_f (by omega)] at h; exact h)
  · skip
    refine V_iload_n (pc := 190) dX5_goesOnAt_190 rfl rfl ?_
    refine V_bipush (pc := 191) dX5_goesOnAt_191 (by decide) ?_
    refine V_bipush (pc := 193) dX5_goesOnAt_193 (by decide) ?_
    refine V_callS (pc := 195) (as := [_, _, _]) (rest := []) dX5_goesOnAt_195 ⟨kX5_53, sX5_isBetween, by decide, by decide⟩ rfl rfl (Nat.le_of_ble_eq_true rfl) (Nat.le_of_ble_eq_true rfl) ?_
    refine ct_X5_isBetween (by first | assumption | decide | omega | exact ba_rg hR | exact b2_rg) (by first | assumption | decide | omega | exact ba_rg hR | exact b2_rg) (by first | assumption | decide | omega | exact ba_rg hR | exact b2_rg) ?_
    show V_ _ _ _ _ _ _ [_] _
    refine V_if_eq (tgt := 205) (pc := 198) dX5_goesOnAt_198 (by decide) (by first | assumption | decide | omega | exact ba_rg hR | exact b2_rg) (fun h198 => ?_) (fun h198 => ?_)
    · skip
      rw [b2_0] at h198
      refine V_iconst (pc := 205) dX5_goesOnAt_205 ?_
      refine V_ireturn (pc := 206) dX5_goesOnAt_206 rfl rfl (fun hR => ?_)
      first | (rw [b2_t (by omega)] at h; exact h) | (rw [b2_f (by omega)] at h; exact h)
    · skip
      rw [b2_n0] at h198
      refine V_iconst (pc := 201) dX5_goesOnAt_201 ?_
      refine V_goto (tgt := 206) (pc := 202) dX5_goesOnAt_202 (by decide) ?_
      refine V_ireturn (pc := 206) dX5_goesOnAt_206 rfl rfl (fun hR => ?_)
      first | (rw [b2_t (by omega)] at h; exact h) | (rw [b2_f (by omega)] at h; exact h)
theorem ct_X5_goesOnAt_3_4 {x : Int} (hx : 0 ≤ x ∧ x ≤ 1000) (hp : x % 5 = 4) (hs : σ 3 1 = 5) (hL : 0 ≤ σ 3 3 ∧ σ 3 3 ≤ 39) (h : post (some (vi_ (b2_ (ba_ (σ 3 3) (σ 4) x = 59)))) σ) : V_ l D mX5_goesOnAt (CM_ D mX5_goesOnAt post) 0 [some (vr_ 3), some (vi_ x), none, none] [] σ := by
  refine V_rg (fun hR => ?_)
  refine V_aload_n (pc := 0) dX5_goesOnAt_0 rfl rfl ?_
  refine V_iload_n (pc := 1) dX5_goesOnAt_1 rfl rfl ?_
  refine V_callV (pc := 2) (as := [_]) (rest := []) dX5_goesOnAt_2 ⟨kX5_35, iX5_byteAt, by decide, by decide⟩ rc_3 rfl rfl (Nat.le_of_ble_eq_true rfl) (Nat.le_of_ble_eq_true rfl) ?_
  refine ct_X5_byteAt_3 ⟨by omega, by omega⟩ (by assumption) ?_
  show V_ _ _ _ _ _ _ [_] _
  refine V_istore_n (pc := 5) dX5_goesOnAt_5 rfl (by decide) rfl ?_
  show V_ _ _ _ _ _ [_, _, _, _] _ _
  refine V_iload_n (pc := 6) dX5_goesOnAt_6 rfl rfl ?_
  refine V_aload_n (pc := 7) dX5_goesOnAt_7 rfl rfl ?_
  refine V_geti (pc := 8) dX5_goesOnAt_8 fX5_21 rfl gg_3 rfl (fun r8 => ?_)
  refine V_irem (pc := 11) dX5_goesOnAt_11 (by first | assumption | decide | omega | exact ba_rg hR | exact b2_rg) (by omega) ?_
  rw [hs, irem_p (by omega) (by decide), hp]
  refine V_istore_n (pc := 12) dX5_goesOnAt_12 rfl (by decide) rfl ?_
  show V_ _ _ _ _ _ [_, _, _, _] _ _
  refine V_iload_n (pc := 13) dX5_goesOnAt_13 rfl rfl ?_
  refine V_aload_n (pc := 14) dX5_goesOnAt_14 rfl rfl ?_
  refine V_getr (pc := 15) dX5_goesOnAt_15 fX5_9 rfl gg_3 rfl ?_
  refine V_callV (pc := 18) (as := []) (rest := [_]) dX5_goesOnAt_18 ⟨kX5_15, iJ0_length_8abf5, by decide, by decide⟩ rc_101 rfl rfl (Nat.le_of_ble_eq_true rfl) (Nat.le_of_ble_eq_true rfl) ?_
  refine ct_J0_length_1 ?_
  show V_ _ _ _ _ _ _ [_, _] _
  refine V_icmp_lt (tgt := 36) (pc := 21) dX5_goesOnAt_21 (by decide) (by first | assumption | decide | omega | exact ba_rg hR | exact b2_rg) (by first | assumption | decide | omega | exact ba_rg hR | exact b2_rg) (fun h21 => by omega) (fun h21 => ?_)
  skip
  refine V_iload_n (pc := 24) dX5_goesOnAt_24 rfl rfl ?_
  refine V_bipush (pc := 25) dX5_goesOnAt_25 (by decide) ?_
  refine V_icmp_ne (tgt := 34) (pc := 27) dX5_goesOnAt_27 (by decide) (by first | assumption | decide | omega | exact ba_rg hR | exact b2_rg) (by first | assumption | decide | omega | exact ba_rg hR | exact b2_rg) (fun h27 => ?_) (fun h27 => ?_)
  · skip
    refine V_iconst (pc := 34) dX5_goesOnAt_34 ?_
    refine V_ireturn (pc := 35) dX5_goesOnAt_35 rfl rfl (fun hR => ?_)
    first | (rw [b2_t (by omega)] at h; exact h) | (rw [b2_f (by omega)] at h; exact h)
  · skip
    refine V_iconst (pc := 30) dX5_goesOnAt_30 ?_
    refine V_goto (tgt := 35) (pc := 31) dX5_goesOnAt_31 (by decide) ?_
    refine V_ireturn (pc := 35) dX5_goesOnAt_35 rfl rfl (fun hR => ?_)
    first | (rw [b2_t (by omega)] at h; exact h) | (rw [b2_f (by omega)] at h; exact h)
theorem ct_X5_byteAt_5 {x : Int} (hx : Rg_ x) (hL : 0 ≤ σ 5 3 ∧ σ 5 3 ≤ 59) (h : post (some (vi_ (ba_ (σ 5 3) (σ 6) x))) σ) : V_ l D mX5_byteAt (CM_ D mX5_byteAt post) 0 [some (vr_ 5), some (vi_ x)] [] σ := by
  unfold ba_ at h
  refine V_iload_n (pc := 0) dX5_byteAt_0 rfl rfl ?_
  refine V_if_lt (tgt := 21) (pc := 1) dX5_byteAt_1 (by decide) (by first | assumption | decide | omega | exact ba_rg hR | exact b2_rg) (fun h1 => ?_) (fun h1 => ?_)
  · skip
    refine V_iconst (pc := 21) dX5_byteAt_21 ?_
    refine V_ireturn (pc := 22) dX5_byteAt_22 rfl rfl (fun hR => ?_)
    first | (rw [if_pos (by omega)] at h; exact h) | (rw [if_neg (by omega)] at h; exact h)
  · skip
    refine V_iload_n (pc := 4) dX5_byteAt_4 rfl rfl ?_
    refine V_aload_n (pc := 5) dX5_byteAt_5 rfl rfl ?_
    refine V_geti (pc := 6) dX5_byteAt_6 fX5_29 rfl gg_5 rfl (fun r6 => ?_)
    refine V_icmp_ge (tgt := 21) (pc := 9) dX5_byteAt_9 (by decide) (by first | assumption | decide | omega | exact ba_rg hR | exact b2_rg) (by first | assumption | decide | omega | exact ba_rg hR | exact b2_rg) (fun h9 => ?_) (fun h9 => ?_)
    · skip
      refine V_iconst (pc := 21) dX5_byteAt_21 ?_
      refine V_ireturn (pc := 22) dX5_byteAt_22 rfl rfl (fun hR => ?_)
      first | (rw [if_pos (by omega)] at h; exact h) | (rw [if_neg (by omega)] at h; exact h)
    · skip
      refine V_aload_n (pc := 12) dX5_byteAt_12 rfl rfl ?_
      refine V_getr (pc := 13) dX5_byteAt_13 fX5_25 rfl gg_5 rfl ?_
      refine V_iload_n (pc := 16) dX5_byteAt_16 rfl rfl ?_
      refine V_iald (pc := 17) dX5_byteAt_17 gg_6 (by first | assumption | decide | omega) (by decide) (fun r17 => ?_)
      refine V_goto (tgt := 22) (pc := 18) dX5_byteAt_18 (by decide) ?_
      refine V_ireturn (pc := 22) dX5_byteAt_22 rfl rfl (fun hR => ?_)
      first | (rw [if_pos (by omega)] at h; exact h) | (rw [if_neg (by omega)] at h; exact h)
theorem ct_X5_figureAt_5 {x : Int} (hx : Rg_ x) (hL : 0 ≤ σ 5 3 ∧ σ 5 3 ≤ 59) (h : post (some (vi_ (ba_ (σ 5 3) (σ 6) x - 48))) σ) : V_ l D mX5_figureAt (CM_ D mX5_figureAt post) 0 [some (vr_ 5), some (vi_ x)] [] σ := by
  refine V_aload_n (pc := 0) dX5_figureAt_0 rfl rfl ?_
  refine V_iload_n (pc := 1) dX5_figureAt_1 rfl rfl ?_
  refine V_callV (pc := 2) (as := [_]) (rest := []) dX5_figureAt_2 ⟨kX5_35, iX5_byteAt, by decide, by decide⟩ rc_5 rfl rfl (Nat.le_of_ble_eq_true rfl) (Nat.le_of_ble_eq_true rfl) ?_
  refine ct_X5_byteAt_5 (by first | assumption | decide | omega | exact ba_rg hR | exact b2_rg) (by assumption) ?_
  show V_ _ _ _ _ _ _ [_] _
  refine V_bipush (pc := 5) dX5_figureAt_5 (by decide) ?_
  refine V_isub (pc := 7) dX5_figureAt_7 ?_
  refine V_ireturn (pc := 8) dX5_figureAt_8 rfl rfl (fun hR => ?_)
  exact h
theorem ct_X5_figuresAt_5 {x : Int} (hx : 0 ≤ x ∧ x ≤ 1000) (hL : 0 ≤ σ 5 3 ∧ σ 5 3 ≤ 59) (h : post (some (vi_ (10 * (ba_ (σ 5 3) (σ 6) x - 48) + (ba_ (σ 5 3) (σ 6) (x + 1) - 48)))) σ) : V_ l D mX5_figuresAt (CM_ D mX5_figuresAt post) 0 [some (vr_ 5), some (vi_ x)] [] σ := by
  refine V_bipush (pc := 0) dX5_figuresAt_0 (by decide) ?_
  refine V_aload_n (pc := 2) dX5_figuresAt_2 rfl rfl ?_
  refine V_iload_n (pc := 3) dX5_figuresAt_3 rfl rfl ?_
  refine V_callV (pc := 4) (as := [_]) (rest := [_]) dX5_figuresAt_4 ⟨kX5_39, iX5_figureAt, by decide, by decide⟩ rc_5 rfl rfl (Nat.le_of_ble_eq_true rfl) (Nat.le_of_ble_eq_true rfl) ?_
  refine ct_X5_figureAt_5 ⟨by omega, by omega⟩ (by assumption) ?_
  show V_ _ _ _ _ _ _ [_, _] _
  refine V_imul (pc := 7) dX5_figuresAt_7 ?_
  refine V_aload_n (pc := 8) dX5_figuresAt_8 rfl rfl ?_
  refine V_iload_n (pc := 9) dX5_figuresAt_9 rfl rfl ?_
  refine V_iconst (pc := 10) dX5_figuresAt_10 ?_
  refine V_iadd (pc := 11) dX5_figuresAt_11 ?_
  refine V_callV (pc := 12) (as := [_]) (rest := [_]) dX5_figuresAt_12 ⟨kX5_39, iX5_figureAt, by decide, by decide⟩ rc_5 rfl rfl (Nat.le_of_ble_eq_true rfl) (Nat.le_of_ble_eq_true rfl) ?_
  refine ct_X5_figureAt_5 ⟨by omega, by omega⟩ (by assumption) ?_
  show V_ _ _ _ _ _ _ [_, _] _
  refine V_iadd (pc := 15) dX5_figuresAt_15 ?_
  refine V_ireturn (pc := 16) dX5_figuresAt_16 rfl rfl (fun hR => ?_)
  exact h
theorem ct_X5_goesOnAt_5_0 {x : Int} (hx : 0 ≤ x ∧ x ≤ 1000) (hp : x % 5 = 0) (hs : σ 5 1 = 5) (hL : 0 ≤ σ 5 3 ∧ σ 5 3 ≤ 59) (h : post (some (vi_ (b2_ (48 ≤ ba_ (σ 5 3) (σ 6) x ∧ ba_ (σ 5 3) (σ 6) x ≤ 53)))) σ) : V_ l D mX5_goesOnAt (CM_ D mX5_goesOnAt post) 0 [some (vr_ 5), some (vi_ x), none, none] [] σ := by
  refine V_rg (fun hR => ?_)
  refine V_aload_n (pc := 0) dX5_goesOnAt_0 rfl rfl ?_
  refine V_iload_n (pc := 1) dX5_goesOnAt_1 rfl rfl ?_
  refine V_callV (pc := 2) (as := [_]) (rest := []) dX5_goesOnAt_2 ⟨kX5_35, iX5_byteAt, by decide, by decide⟩ rc_5 rfl rfl (Nat.le_of_ble_eq_true rfl) (Nat.le_of_ble_eq_true rfl) ?_
  refine ct_X5_byteAt_5 ⟨by omega, by omega⟩ (by assumption) ?_
  show V_ _ _ _ _ _ _ [_] _
  refine V_istore_n (pc := 5) dX5_goesOnAt_5 rfl (by decide) rfl ?_
  show V_ _ _ _ _ _ [_, _, _, _] _ _
  refine V_iload_n (pc := 6) dX5_goesOnAt_6 rfl rfl ?_
  refine V_aload_n (pc := 7) dX5_goesOnAt_7 rfl rfl ?_
  refine V_geti (pc := 8) dX5_goesOnAt_8 fX5_21 rfl gg_5 rfl (fun r8 => ?_)
  refine V_irem (pc := 11) dX5_goesOnAt_11 (by first | assumption | decide | omega | exact ba_rg hR | exact b2_rg) (by omega) ?_
  rw [hs, irem_p (by omega) (by decide), hp]
  refine V_istore_n (pc := 12) dX5_goesOnAt_12 rfl (by decide) rfl ?_
  show V_ _ _ _ _ _ [_, _, _, _] _ _
  refine V_iload_n (pc := 13) dX5_goesOnAt_13 rfl rfl ?_
  refine V_aload_n (pc := 14) dX5_goesOnAt_14 rfl rfl ?_
  refine V_getr (pc := 15) dX5_goesOnAt_15 fX5_9 rfl gg_5 rfl ?_
  refine V_callV (pc := 18) (as := []) (rest := [_]) dX5_goesOnAt_18 ⟨kX5_15, iJ0_length_8abf5, by decide, by decide⟩ rc_102 rfl rfl (Nat.le_of_ble_eq_true rfl) (Nat.le_of_ble_eq_true rfl) ?_
  refine ct_J0_length_2 ?_
  show V_ _ _ _ _ _ _ [_, _] _
  refine V_icmp_lt (tgt := 36) (pc := 21) dX5_goesOnAt_21 (by decide) (by first | assumption | decide | omega | exact ba_rg hR | exact b2_rg) (by first | assumption | decide | omega | exact ba_rg hR | exact b2_rg) (fun h21 => ?_) (fun h21 => by omega)
  skip
  refine V_aload_n (pc := 36) dX5_goesOnAt_36 rfl rfl ?_
  refine V_getr (pc := 37) dX5_goesOnAt_37 fX5_9 rfl gg_5 rfl ?_
  refine V_iload_n (pc := 40) dX5_goesOnAt_40 rfl rfl ?_
  refine V_callV (pc := 41) (as := [_]) (rest := []) dX5_goesOnAt_41 ⟨kX5_49, iJ0_charAt_5068e, by decide, by decide⟩ rc_102 rfl rfl (Nat.le_of_ble_eq_true rfl) (Nat.le_of_ble_eq_true rfl) ?_
  refine ct_J0_charAt_2_0 ?_
  show V_ _ _ _ _ _ _ [_] _
  refine V_lookup (tgt := 148) (off := 104) (pc := 44) dX5_goesOnAt_44 (by decide) (by decide) (by decide) (by decide) ?_
  refine V_iload_n (pc := 148) dX5_goesOnAt_148 rfl rfl ?_
  refine V_bipush (pc := 149) dX5_goesOnAt_149 (by decide) ?_
  refine V_bipush (pc := 151) dX5_goesOnAt_151 (by decide) ?_
  refine V_callS (pc := 153) (as := [_, _, _]) (rest := []) dX5_goesOnAt_153 ⟨kX5_53, sX5_isBetween, by decide, by decide⟩ rfl rfl (Nat.le_of_ble_eq_true rfl) (Nat.le_of_ble_eq_true rfl) ?_
  refine ct_X5_isBetween (by first | assumption | decide | omega | exact ba_rg hR | exact b2_rg) (by first | assumption | decide | omega | exact ba_rg hR | exact b2_rg) (by first | assumption | decide | omega | exact ba_rg hR | exact b2_rg) ?_
  show V_ _ _ _ _ _ _ [_] _
  refine V_ireturn (pc := 156) dX5_goesOnAt_156 rfl b2_nar (fun hR => ?_)
  exact h
theorem ct_X5_goesOnAt_5_1 {x : Int} (hx : 0 ≤ x ∧ x ≤ 1000) (hp : x % 5 = 1) (hs : σ 5 1 = 5) (hL : 0 ≤ σ 5 3 ∧ σ 5 3 ≤ 59) (h : post (some (vi_ (b2_ (97 ≤ ba_ (σ 5 3) (σ 6) x ∧ ba_ (σ 5 3) (σ 6) x ≤ 104)))) σ) : V_ l D mX5_goesOnAt (CM_ D mX5_goesOnAt post) 0 [some (vr_ 5), some (vi_ x), none, none] [] σ := by
  refine V_rg (fun hR => ?_)
  refine V_aload_n (pc := 0) dX5_goesOnAt_0 rfl rfl ?_
  refine V_iload_n (pc := 1) dX5_goesOnAt_1 rfl rfl ?_
  refine V_callV (pc := 2) (as := [_]) (rest := []) dX5_goesOnAt_2 ⟨kX5_35, iX5_byteAt, by decide, by decide⟩ rc_5 rfl rfl (Nat.le_of_ble_eq_true rfl) (Nat.le_of_ble_eq_true rfl) ?_
  refine ct_X5_byteAt_5 ⟨by omega, by omega⟩ (by assumption) ?_
  show V_ _ _ _ _ _ _ [_] _
  refine V_istore_n (pc := 5) dX5_goesOnAt_5 rfl (by decide) rfl ?_
  show V_ _ _ _ _ _ [_, _, _, _] _ _
  refine V_iload_n (pc := 6) dX5_goesOnAt_6 rfl rfl ?_
  refine V_aload_n (pc := 7) dX5_goesOnAt_7 rfl rfl ?_
  refine V_geti (pc := 8) dX5_goesOnAt_8 fX5_21 rfl gg_5 rfl (fun r8 => ?_)
  refine V_irem (pc := 11) dX5_goesOnAt_11 (by first | assumption | decide | omega | exact ba_rg hR | exact b2_rg) (by omega) ?_
  rw [hs, irem_p (by omega) (by decide), hp]
  refine V_istore_n (pc := 12) dX5_goesOnAt_12 rfl (by decide) rfl ?_
  show V_ _ _ _ _ _ [_, _, _, _] _ _
  refine V_iload_n (pc := 13) dX5_goesOnAt_13 rfl rfl ?_
  refine V_aload_n (pc := 14) dX5_goesOnAt_14 rfl rfl ?_
  refine V_getr (pc := 15) dX5_goesOnAt_15 fX5_9 rfl gg_5 rfl ?_
  refine V_callV (pc := 18) (as := []) (rest := [_]) dX5_goesOnAt_18 ⟨kX5_15, iJ0_length_8abf5, by decide, by decide⟩ rc_102 rfl rfl (Nat.le_of_ble_eq_true rfl) (Nat.le_of_ble_eq_true rfl) ?_
  refine ct_J0_length_2 ?_
  show V_ _ _ _ _ _ _ [_, _] _
  refine V_icmp_lt (tgt := 36) (pc := 21) dX5_goesOnAt_21 (by decide) (by first | assumption | decide | omega | exact ba_rg hR | exact b2_rg) (by first | assumption | decide | omega | exact ba_rg hR | exact b2_rg) (fun h21 => ?_) (fun h21 => by omega)
  skip
  refine V_aload_n (pc := 36) dX5_goesOnAt_36 rfl rfl ?_
  refine V_getr (pc := 37) dX5_goesOnAt_37 fX5_9 rfl gg_5 rfl ?_
  refine V_iload_n (pc := 40) dX5_goesOnAt_40 rfl rfl ?_
  refine V_callV (pc := 41) (as := [_]) (rest := []) dX5_goesOnAt_41 ⟨kX5_49, iJ0_charAt_5068e, by decide, by decide⟩ rc_102 rfl rfl (Nat.le_of_ble_eq_true rfl) (Nat.le_of_ble_eq_true rfl) ?_
  refine ct_J0_charAt_2_1 ?_
  show V_ _ _ _ _ _ _ [_] _
  refine V_lookup (tgt := 157) (off := 113) (pc := 44) dX5_goesOnAt_44 (by decide) (by decide) (by decide) (by decide) ?_
  refine V_iload_n (pc := 157) dX5_goesOnAt_157 rfl rfl ?_
  refine V_bipush (pc := 158) dX5_goesOnAt_158 (by decide) ?_
  refine V_bipush (pc := 160) dX5_goesOnAt_160 (by decide) ?_
  refine V_callS (pc := 162) (as := [_, _, _]) (rest := []) dX5_goesOnAt_162 ⟨kX5_53, sX5_isBetween, by decide, by decide⟩ rfl rfl (Nat.le_of_ble_eq_true rfl) (Nat.le_of_ble_eq_true rfl) ?_
  refine ct_X5_isBetween (by first | assumption | decide | omega | exact ba_rg hR | exact b2_rg) (by first | assumption | decide | omega | exact ba_rg hR | exact b2_rg) (by first | assumption | decide | omega | exact ba_rg hR | exact b2_rg) ?_
  show V_ _ _ _ _ _ _ [_] _
  refine V_ireturn (pc := 165) dX5_goesOnAt_165 rfl b2_nar (fun hR => ?_)
  exact h
theorem ct_X5_goesOnAt_5_2 {x : Int} (hx : 0 ≤ x ∧ x ≤ 1000) (hp : x % 5 = 2) (hs : σ 5 1 = 5) (hL : 0 ≤ σ 5 3 ∧ σ 5 3 ≤ 59) (h : post (some (vi_ (b2_ (48 ≤ ba_ (σ 5 3) (σ 6) x ∧ ba_ (σ 5 3) (σ 6) x ≤ 57)))) σ) : V_ l D mX5_goesOnAt (CM_ D mX5_goesOnAt post) 0 [some (vr_ 5), some (vi_ x), none, none] [] σ := by
  refine V_rg (fun hR => ?_)
  refine V_aload_n (pc := 0) dX5_goesOnAt_0 rfl rfl ?_
  refine V_iload_n (pc := 1) dX5_goesOnAt_1 rfl rfl ?_
  refine V_callV (pc := 2) (as := [_]) (rest := []) dX5_goesOnAt_2 ⟨kX5_35, iX5_byteAt, by decide, by decide⟩ rc_5 rfl rfl (Nat.le_of_ble_eq_true rfl) (Nat.le_of_ble_eq_true rfl) ?_
  refine ct_X5_byteAt_5 ⟨by omega, by omega⟩ (by assumption) ?_
  show V_ _ _ _ _ _ _ [_] _
  refine V_istore_n (pc := 5) dX5_goesOnAt_5 rfl (by decide) rfl ?_
  show V_ _ _ _ _ _ [_, _, _, _] _ _
  refine V_iload_n (pc := 6) dX5_goesOnAt_6 rfl rfl ?_
  refine V_aload_n (pc := 7) dX5_goesOnAt_7 rfl rfl ?_
  refine V_geti (pc := 8) dX5_goesOnAt_8 fX5_21 rfl gg_5 rfl (fun r8 => ?_)
  refine V_irem (pc := 11) dX5_goesOnAt_11 (by first | assumption | decide | omega | exact ba_rg hR | exact b2_rg) (by omega) ?_
  rw [hs, irem_p (by omega) (by decide), hp]
  refine V_istore_n (pc := 12) dX5_goesOnAt_12 rfl (by decide) rfl ?_
  show V_ _ _ _ _ _ [_, _, _, _] _ _
  refine V_iload_n (pc := 13) dX5_goesOnAt_13 rfl rfl ?_
  refine V_aload_n (pc := 14) dX5_goesOnAt_14 rfl rfl ?_
  refine V_getr (pc := 15) dX5_goesOnAt_15 fX5_9 rfl gg_5 rfl ?_
  refine V_callV (pc := 18) (as := []) (rest := [_]) dX5_goesOnAt_18 ⟨kX5_15, iJ0_length_8abf5, by decide, by decide⟩ rc_102 rfl rfl (Nat.le_of_ble_eq_true rfl) (Nat.le_of_ble_eq_true rfl) ?_
  refine ct_J0_length_2 ?_
  show V_ _ _ _ _ _ _ [_, _] _
  refine V_icmp_lt (tgt := 36) (pc := 21) dX5_goesOnAt_21 (by decide) (by first | assumption | decide | omega | exact ba_rg hR | exact b2_rg) (by first | assumption | decide | omega | exact ba_rg hR | exact b2_rg) (fun h21 => ?_) (fun h21 => by omega)
  skip
  refine V_aload_n (pc := 36) dX5_goesOnAt_36 rfl rfl ?_
  refine V_getr (pc := 37) dX5_goesOnAt_37 fX5_9 rfl gg_5 rfl ?_
  refine V_iload_n (pc := 40) dX5_goesOnAt_40 rfl rfl ?_
  refine V_callV (pc := 41) (as := [_]) (rest := []) dX5_goesOnAt_41 ⟨kX5_49, iJ0_charAt_5068e, by decide, by decide⟩ rc_102 rfl rfl (Nat.le_of_ble_eq_true rfl) (Nat.le_of_ble_eq_true rfl) ?_
  refine ct_J0_charAt_2_2 ?_
  show V_ _ _ _ _ _ _ [_] _
  refine V_lookup (tgt := 104) (off := 60) (pc := 44) dX5_goesOnAt_44 (by decide) (by decide) (by decide) (by decide) ?_
  refine V_iload_n (pc := 104) dX5_goesOnAt_104 rfl rfl ?_
  refine V_bipush (pc := 105) dX5_goesOnAt_105 (by decide) ?_
  refine V_bipush (pc := 107) dX5_goesOnAt_107 (by decide) ?_
  refine V_callS (pc := 109) (as := [_, _, _]) (rest := []) dX5_goesOnAt_109 ⟨kX5_53, sX5_isBetween, by decide, by decide⟩ rfl rfl (Nat.le_of_ble_eq_true rfl) (Nat.le_of_ble_eq_true rfl) ?_
  refine ct_X5_isBetween (by first | assumption | decide | omega | exact ba_rg hR | exact b2_rg) (by first | assumption | decide | omega | exact ba_rg hR | exact b2_rg) (by first | assumption | decide | omega | exact ba_rg hR | exact b2_rg) ?_
  show V_ _ _ _ _ _ _ [_] _
  refine V_ireturn (pc := 112) dX5_goesOnAt_112 rfl b2_nar (fun hR => ?_)
  exact h
theorem ct_X5_goesOnAt_5_3 {x : Int} (hx : 0 ≤ x ∧ x ≤ 1000) (hp : x % 5 = 3) (hs : σ 5 1 = 5) (hL : 0 ≤ σ 5 3 ∧ σ 5 3 ≤ 59) (h : post (some (vi_ (b2_ ((48 ≤ ba_ (σ 5 3) (σ 6) x ∧ ba_ (σ 5 3) (σ 6) x ≤ 57) ∧ (ba_ (σ 5 3) (σ 6) x ≠ 48 ∨ ba_ (σ 5 3) (σ 6) (x - 1) ≠ 48))))) σ) : V_ l D mX5_goesOnAt (CM_ D mX5_goesOnAt post) 0 [some (vr_ 5), some (vi_ x), none, none] [] σ := by
  refine V_rg (fun hR => ?_)
  refine V_aload_n (pc := 0) dX5_goesOnAt_0 rfl rfl ?_
  refine V_iload_n (pc := 1) dX5_goesOnAt_1 rfl rfl ?_
  refine V_callV (pc := 2) (as := [_]) (rest := []) dX5_goesOnAt_2 ⟨kX5_35, iX5_byteAt, by decide, by decide⟩ rc_5 rfl rfl (Nat.le_of_ble_eq_true rfl) (Nat.le_of_ble_eq_true rfl) ?_
  refine ct_X5_byteAt_5 ⟨by omega, by omega⟩ (by assumption) ?_
  show V_ _ _ _ _ _ _ [_] _
  refine V_istore_n (pc := 5) dX5_goesOnAt_5 rfl (by decide) rfl ?_
  show V_ _ _ _ _ _ [_, _, _, _] _ _
  refine V_iload_n (pc := 6) dX5_goesOnAt_6 rfl rfl ?_
  refine V_aload_n (pc := 7) dX5_goesOnAt_7 rfl rfl ?_
  refine V_geti (pc := 8) dX5_goesOnAt_8 fX5_21 rfl gg_5 rfl (fun r8 => ?_)
  refine V_irem (pc := 11) dX5_goesOnAt_11 (by first | assumption | decide | omega | exact ba_rg hR | exact b2_rg) (by omega) ?_
  rw [hs, irem_p (by omega) (by decide), hp]
  refine V_istore_n (pc := 12) dX5_goesOnAt_12 rfl (by decide) rfl ?_
  show V_ _ _ _ _ _ [_, _, _, _] _ _
  refine V_iload_n (pc := 13) dX5_goesOnAt_13 rfl rfl ?_
  refine V_aload_n (pc := 14) dX5_goesOnAt_14 rfl rfl ?_
  refine V_getr (pc := 15) dX5_goesOnAt_15 fX5_9 rfl gg_5 rfl ?_
  refine V_callV (pc := 18) (as := []) (rest := [_]) dX5_goesOnAt_18 ⟨kX5_15, iJ0_length_8abf5, by decide, by decide⟩ rc_102 rfl rfl (Nat.le_of_ble_eq_true rfl) (Nat.le_of_ble_eq_true rfl) ?_
  refine ct_J0_length_2 ?_
  show V_ _ _ _ _ _ _ [_, _] _
  refine V_icmp_lt (tgt := 36) (pc := 21) dX5_goesOnAt_21 (by decide) (by first | assumption | decide | omega | exact ba_rg hR | exact b2_rg) (by first | assumption | decide | omega | exact ba_rg hR | exact b2_rg) (fun h21 => ?_) (fun h21 => by omega)
  skip
  refine V_aload_n (pc := 36) dX5_goesOnAt_36 rfl rfl ?_
  refine V_getr (pc := 37) dX5_goesOnAt_37 fX5_9 rfl gg_5 rfl ?_
  refine V_iload_n (pc := 40) dX5_goesOnAt_40 rfl rfl ?_
  refine V_callV (pc := 41) (as := [_]) (rest := []) dX5_goesOnAt_41 ⟨kX5_49, iJ0_charAt_5068e, by decide, by decide⟩ rc_102 rfl rfl (Nat.le_of_ble_eq_true rfl) (Nat.le_of_ble_eq_true rfl) ?_
  refine ct_J0_charAt_2_3 ?_
  show V_ _ _ _ _ _ _ [_] _
  refine V_lookup (tgt := 113) (off := 69) (pc := 44) dX5_goesOnAt_44 (by decide) (by decide) (by decide) (by decide) ?_
  refine V_iload_n (pc := 113) dX5_goesOnAt_113 rfl rfl ?_
  refine V_bipush (pc := 114) dX5_goesOnAt_114 (by decide) ?_
  refine V_bipush (pc := 116) dX5_goesOnAt_116 (by decide) ?_
  refine V_callS (pc := 118) (as := [_, _, _]) (rest := []) dX5_goesOnAt_118 ⟨kX5_53, sX5_isBetween, by decide, by decide⟩ rfl rfl (Nat.le_of_ble_eq_true rfl) (Nat.le_of_ble_eq_true rfl) ?_
  refine ct_X5_isBetween (by first | assumption | decide | omega | exact ba_rg hR | exact b2_rg) (by first | assumption | decide | omega | exact ba_rg hR | exact b2_rg) (by first | assumption | decide | omega | exact ba_rg hR | exact b2_rg) ?_
  show V_ _ _ _ _ _ _ [_] _
  refine V_if_eq (tgt := 146) (pc := 121) dX5_goesOnAt_121 (by decide) (by first | assumption | decide | omega | exact ba_rg hR | exact b2_rg) (fun h121 => ?_) (fun h121 => ?_)
  · skip
    rw [b2_0] at h121
    refine V_iconst (pc := 146) dX5_goesOnAt_146 ?_
    refine V_ireturn (pc := 147) dX5_goesOnAt_147 rfl rfl (fun hR => ?_)
    first | (rw [b2_t (by omega)] at h; exact h) | (rw [b2_f (by omega)] at h; exact h)
  · skip
    rw [b2_n0] at h121
    refine V_iload_n (pc := 124) dX5_goesOnAt_124 rfl rfl ?_
    refine V_bipush (pc := 125) dX5_goesOnAt_125 (by decide) ?_
    refine V_icmp_ne (tgt := 142) (pc := 127) dX5_goesOnAt_127 (by decide) (by first | assumption | decide | omega | exact ba_rg hR | exact b2_rg) (by first | assumption | decide | omega | exact ba_rg hR | exact b2_rg) (fun h127 => ?_) (fun h127 => ?_)
    · skip
      refine V_iconst (pc := 142) dX5_goesOnAt_142 ?_
      refine V_goto (tgt := 147) (pc := 143) dX5_goesOnAt_143 (by decide) ?_
      refine V_ireturn (pc := 147) dX5_goesOnAt_147 rfl rfl (fun hR => ?_)
      first | (rw [b2_t (by omega)] at h; exact h) | (rw [b2_f (by omega)] at h; exact h)
    · skip
      refine V_aload_n (pc := 130) dX5_goesOnAt_130 rfl rfl ?_
      refine V_iload_n (pc := 131) dX5_goesOnAt_131 rfl rfl ?_
      refine V_iconst (pc := 132) dX5_goesOnAt_132 ?_
      refine V_isub (pc := 133) dX5_goesOnAt_133 ?_
      refine V_callV (pc := 134) (as := [_]) (rest := []) dX5_goesOnAt_134 ⟨kX5_35, iX5_byteAt, by decide, by decide⟩ rc_5 rfl rfl (Nat.le_of_ble_eq_true rfl) (Nat.le_of_ble_eq_true rfl) ?_
      refine ct_X5_byteAt_5 ⟨by omega, by omega⟩ (by assumption) ?_
      show V_ _ _ _ _ _ _ [_] _
      refine V_bipush (pc := 137) dX5_goesOnAt_137 (by decide) ?_
      refine V_icmp_eq (tgt := 146) (pc := 139) dX5_goesOnAt_139 (by decide) (by first | assumption | decide | omega | exact ba_rg hR | exact b2_rg) (by first | assumption | decide | omega | exact ba_rg hR | exact b2_rg) (fun h139 => ?_) (fun h139 => ?_)
      · skip
        refine V_iconst (pc := 146) dX5_goesOnAt_146 ?_
        refine V_ireturn (pc := 147) dX5_goesOnAt_147 rfl rfl (fun hR => ?_)
        first | (rw [b2_t (by omega)] at h; exact h) | (rw [b2_f (by omega)] at h; exact h)
      · skip
        refine V_iconst (pc := 142) dX5_goesOnAt_142 ?_
        refine V_goto (tgt := 147) (pc := 143) dX5_goesOnAt_143 (by decide) ?_
        refine V_ireturn (pc := 147) dX5_goesOnAt_147 rfl rfl (fun hR => ?_)
        first | (rw [b2_t (by omega)] at h; exact h) | (rw [b2_f (by omega)] at h; exact h)
theorem ct_X5_goesOnAt_5_4 {x : Int} (hx : 0 ≤ x ∧ x ≤ 1000) (hp : x % 5 = 4) (hs : σ 5 1 = 5) (hL : 0 ≤ σ 5 3 ∧ σ 5 3 ≤ 59) (h : post (some (vi_ (b2_ (ba_ (σ 5 3) (σ 6) x = 59)))) σ) : V_ l D mX5_goesOnAt (CM_ D mX5_goesOnAt post) 0 [some (vr_ 5), some (vi_ x), none, none] [] σ := by
  refine V_rg (fun hR => ?_)
  refine V_aload_n (pc := 0) dX5_goesOnAt_0 rfl rfl ?_
  refine V_iload_n (pc := 1) dX5_goesOnAt_1 rfl rfl ?_
  refine V_callV (pc := 2) (as := [_]) (rest := []) dX5_goesOnAt_2 ⟨kX5_35, iX5_byteAt, by decide, by decide⟩ rc_5 rfl rfl (Nat.le_of_ble_eq_true rfl) (Nat.le_of_ble_eq_true rfl) ?_
  refine ct_X5_byteAt_5 ⟨by omega, by omega⟩ (by assumption) ?_
  show V_ _ _ _ _ _ _ [_] _
  refine V_istore_n (pc := 5) dX5_goesOnAt_5 rfl (by decide) rfl ?_
  show V_ _ _ _ _ _ [_, _, _, _] _ _
  refine V_iload_n (pc := 6) dX5_goesOnAt_6 rfl rfl ?_
  refine V_aload_n (pc := 7) dX5_goesOnAt_7 rfl rfl ?_
  refine V_geti (pc := 8) dX5_goesOnAt_8 fX5_21 rfl gg_5 rfl (fun r8 => ?_)
  refine V_irem (pc := 11) dX5_goesOnAt_11 (by first | assumption | decide | omega | exact ba_rg hR | exact b2_rg) (by omega) ?_
  rw [hs, irem_p (by omega) (by decide), hp]
  refine V_istore_n (pc := 12) dX5_goesOnAt_12 rfl (by decide) rfl ?_
  show V_ _ _ _ _ _ [_, _, _, _] _ _
  refine V_iload_n (pc := 13) dX5_goesOnAt_13 rfl rfl ?_
  refine V_aload_n (pc := 14) dX5_goesOnAt_14 rfl rfl ?_
  refine V_getr (pc := 15) dX5_goesOnAt_15 fX5_9 rfl gg_5 rfl ?_
  refine V_callV (pc := 18) (as := []) (rest := [_]) dX5_goesOnAt_18 ⟨kX5_15, iJ0_length_8abf5, by decide, by decide⟩ rc_102 rfl rfl (Nat.le_of_ble_eq_true rfl) (Nat.le_of_ble_eq_true rfl) ?_
  refine ct_J0_length_2 ?_
  show V_ _ _ _ _ _ _ [_, _] _
  refine V_icmp_lt (tgt := 36) (pc := 21) dX5_goesOnAt_21 (by decide) (by first | assumption | decide | omega | exact ba_rg hR | exact b2_rg) (by first | assumption | decide | omega | exact ba_rg hR | exact b2_rg) (fun h21 => by omega) (fun h21 => ?_)
  skip
  refine V_iload_n (pc := 24) dX5_goesOnAt_24 rfl rfl ?_
  refine V_bipush (pc := 25) dX5_goesOnAt_25 (by decide) ?_
  refine V_icmp_ne (tgt := 34) (pc := 27) dX5_goesOnAt_27 (by decide) (by first | assumption | decide | omega | exact ba_rg hR | exact b2_rg) (by first | assumption | decide | omega | exact ba_rg hR | exact b2_rg) (fun h27 => ?_) (fun h27 => ?_)
  · skip
    refine V_iconst (pc := 34) dX5_goesOnAt_34 ?_
    refine V_ireturn (pc := 35) dX5_goesOnAt_35 rfl rfl (fun hR => ?_)
    first | (rw [b2_t (by omega)] at h; exact h) | (rw [b2_f (by omega)] at h; exact h)
  · skip
    refine V_iconst (pc := 30) dX5_goesOnAt_30 ?_
    refine V_goto (tgt := 35) (pc := 31) dX5_goesOnAt_31 (by decide) ?_
    refine V_ireturn (pc := 35) dX5_goesOnAt_35 rfl rfl (fun hR => ?_)
    first | (rw [b2_t (by omega)] at h; exact h) | (rw [b2_f (by omega)] at h; exact h)
end
