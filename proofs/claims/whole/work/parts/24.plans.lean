/-! ## class DrownedNames: plans, seen, premiums, storms -/
def pc_ (x : Int) : Int := sm_ (fun k => if bt_ x (k : Int) = true then 1 else 0) 8
def bc_ (x : Int) : Int :=
  let p := x - iand_ (iushr_ x 1) 1431655765
  let q := iand_ p 858993459 + iand_ (iushr_ p 2) 858993459
  let r := iand_ (q + iushr_ q 4) 252645135
  let s := r + iushr_ r 8
  iand_ (s + iushr_ s 16) 63
theorem bc_pc : ∀ n : Nat, n < 256 → bc_ (n : Int) = pc_ (n : Int) := by decide +kernel
theorem pc_rg {x : Int} : 0 ≤ pc_ x ∧ pc_ x ≤ 8 := by
  have := sm_rg (f := fun k => if bt_ x (k : Int) = true then 1 else 0) (a := 1) (n := 8) (fun i _ => by split <;> decide)
  unfold pc_; omega
def an_safe (a : Mm_) : Int := bs_ (fun s => decide (si_ (vv_ a) 255 0 (s : Int) (bg_ (vv_ a)) 2 1 = 0)) (vv_ a 0 0).toNat
def tk_ (v : Mm_) (s : Nat) : Nat → Int × Int
  | 0 => (-1, 0)
  | n + 1 => if iand_ ((n : Int) + 1) (v 11 0) ≠ 0 ∨ hs_ v ((n : Int) + 1) (v 3 0).toNat < v 1 s then tk_ v s n else
    if (tk_ v s n).1 = -1 ∨ pc_ ((n : Int) + 1) < pc_ (tk_ v s n).1 ∨ (pc_ ((n : Int) + 1) = pc_ (tk_ v s n).1 ∧ hs_ v ((n : Int) + 1) (v 3 0).toNat < (tk_ v s n).2) then ((n : Int) + 1, hs_ v ((n : Int) + 1) (v 3 0).toNat) else tk_ v s n
def an_take (a : Mm_) (s : Int) : Int := if wS_ (vv_ a) s then (tk_ (vv_ a) s.toNat (ns_ (vv_ a) - 1)).1 else -2
theorem tk_rg {v : Mm_} (hW : WF_ v) {s : Nat} : ∀ {n : Nat}, ((tk_ v s n).1 = -1 ∨ (1 ≤ (tk_ v s n).1 ∧ (tk_ v s n).1 ≤ n)) ∧ (0 ≤ (tk_ v s n).2 ∧ (tk_ v s n).2 ≤ 792) := by
  intro n
  induction n with
  | zero => simp [tk_]
  | succ n ih =>
    have wn := hW.n
    have hh := hs_rg hW (set := (n : Int) + 1) (n := (v 3 0).toNat) (by omega)
    unfold tk_
    split
    · omega
    · split
      · refine ⟨Or.inr ⟨?_, ?_⟩, ?_⟩
        · show 1 ≤ (n : Int) + 1; omega
        · show (n : Int) + 1 ≤ _; omega
        · show 0 ≤ hs_ v ((n : Int) + 1) (v 3 0).toNat ∧ hs_ v ((n : Int) + 1) (v 3 0).toNat ≤ 792
          omega
      · omega
def vs_ (v : Mm_) (x : Int) : Mm_ := ms_ v 11 0 x
def an_strike (a : Mm_) (k z : Int) : Int := if wN_ (vv_ a) k ∧ wN_ (vv_ a) z then bt2_ (vs_ (vv_ a) (so_ (a 4 0) z)) k (vv_ a 0 0).toNat - bt2_ (vv_ a) k (vv_ a 0 0).toNat else -1002
theorem HC_.vs {v σ : Mm_} {x : Int} (h : HC_ v σ) : HC_ (vs_ v x) σ := by
  unfold HC_ vs_ at *
  simp only [ms_rw, ne_eq, Nat.reduceEqDiff, not_false_eq_true]
  exact h
theorem WF_.vs {v : Mm_} {x : Int} (h : WF_ v) (hx : 0 ≤ x ∧ x ≤ 255) : WF_ (vs_ v x) := by
  unfold WF_ vs_ at *
  simp only [ms_rw, ne_eq, Nat.reduceEqDiff, not_false_eq_true, ms_eq]
  exact ⟨h.1, h.2.1, h.2.2.1, hx, h.2.2.2.2⟩
noncomputable def an_sound (a : Mm_) (w : Int) : Int := if 0 ≤ w ∧ w ≤ 1 then (if w = 0 then hm_ (vv_ a) (ww_ a) (ns_ (vv_ a)) else le_ (vv_ a) (ww_ a) (ns_ (vv_ a))) else -2
noncomputable def an_press (a : Mm_) : Int := (pr_ (vv_ a) (ww_ a) (vv_ a 0 0).toNat).1
def ph_ : Nat → Int → Int → Int × Int
  | 0, x, z => (x, z)
  | n + 1, x, z => if 1 < z ∧ x % 2 = 0 then ph_ n (x / 2) (z / 2) else (x, z)
def pt2_ (x z w : Int) : Int := if w = 0 then (ph_ 31 x z).1 else (ph_ 31 x z).2
def fr_ (v : Mm_) (k : Int) (n : Nat) : Int := sm_ (fun s => v 2 s * bo_ v (s : Int) k (v 7 0).toNat) n
def an_fair (a : Mm_) (k w : Int) : Int := if wN_ (vv_ a) k ∧ 0 ≤ w ∧ w ≤ 1 then pt2_ (fr_ (vv_ a) k (vv_ a 0 0).toNat) 16 w else -9223372036854775806
theorem fr_rg {v : Mm_} (h : WF_ v) {k : Int} {n : Nat} (hn : (n : Int) ≤ v 0 0) : 0 ≤ fr_ v k n ∧ fr_ v k n ≤ 10692 * n := by
  refine sm_rg (fun i hi => ?_)
  have wl := h.l
  have h1 := bo_rg h (s := (i : Int)) (k := k) (n := (v 7 0).toNat) (by omega)
  have h2 := h.si (k := i) (by omega)
  refine ⟨Int.mul_nonneg (by omega) (by omega), ?_⟩
  have := Int.mul_le_mul (show v 2 i ≤ 9 by omega) (show bo_ v (i : Int) k (v 7 0).toNat ≤ 1188 by omega) (by omega) (by decide)
  omega
def sn_ (v : Mm_) (k : Nat) (m : Int) : Nat → Int × Int
  | 0 => (0, 0)
  | n + 1 => ((sn_ v k m n).1 + (if m ≤ to_ v (n : Int) (v 0 0).toNat 0 k then ch_ v (n : Int) (v 0 0).toNat else 0), (sn_ v k m n).2 + ch_ v (n : Int) (v 0 0).toNat)
def ss_ (v : Mm_) : Nat := 2 ^ (v 0 0).toNat
def an_storm (a : Mm_) (k m w : Int) : Int := if wN_ (vv_ a) k ∧ (0 ≤ m ∧ m ≤ 99) ∧ 0 ≤ w ∧ w ≤ 1 then pt2_ (sn_ (vv_ a) k.toNat m (ss_ (vv_ a))).1 (sn_ (vv_ a) k.toNat m (ss_ (vv_ a))).2 w else -9223372036854775806
theorem ss_rg {v : Mm_} (hW : WF_ v) : 1 ≤ ss_ v ∧ ss_ v ≤ 64 := by
  have h := hW.s
  have h1 : 2 ^ (v 0 0).toNat ≤ 2 ^ 6 := Nat.pow_le_pow_right (by decide) (by omega)
  have h2 := Nat.one_le_two_pow (n := (v 0 0).toNat)
  unfold ss_; omega
theorem ss_sh {v : Mm_} (hW : WF_ v) : ishl_ 1 (v 0 0) = (ss_ v : Int) := by
  have h := hW.s
  obtain ⟨n, hn⟩ := i_nat h.1
  rw [hn, ishl_1 (by omega)]
  unfold ss_
  rw [hn]
  rfl
theorem ch_b {v : Mm_} (hW : WF_ v) {set : Int} : 0 ≤ ch_ v set (v 0 0).toNat ∧ ch_ v set (v 0 0).toNat ≤ 16777216 := by
  have h := hW.s
  have h1 := ch_rg hW (set := set) (n := (v 0 0).toNat) (by omega)
  have h2 := p16 (n := (v 0 0).toNat) (by omega)
  omega
theorem sn_rg {v : Mm_} (hW : WF_ v) {k : Nat} {m : Int} : ∀ {n : Nat}, (0 ≤ (sn_ v k m n).1 ∧ (sn_ v k m n).1 ≤ (sn_ v k m n).2) ∧ (sn_ v k m n).2 ≤ 16777216 * n := by
  intro n
  induction n with
  | zero => simp [sn_]
  | succ n ih =>
    have hc := ch_b hW (set := (n : Int))
    show (0 ≤ (sn_ v k m n).1 + (if m ≤ to_ v (n : Int) (v 0 0).toNat 0 k then ch_ v (n : Int) (v 0 0).toNat else 0) ∧ (sn_ v k m n).1 + (if m ≤ to_ v (n : Int) (v 0 0).toNat 0 k then ch_ v (n : Int) (v 0 0).toNat else 0) ≤ (sn_ v k m n).2 + ch_ v (n : Int) (v 0 0).toNat) ∧ (sn_ v k m n).2 + ch_ v (n : Int) (v 0 0).toNat ≤ _
    split <;> omega
def an_years (a : Mm_) (sd n k w : Int) : Int := if (1 ≤ n ∧ n ≤ 30) ∧ wN_ (vv_ a) k ∧ 0 ≤ w ∧ w ≤ 1 then (if w = 0 then (lo_ (vv_ a) sd n.toNat).2 0 k.toNat else pc_ ((lo_ (vv_ a) sd n.toNat).2 2 0)) else -2
section
variable {l : Launch} {D : Dt_} {a v σ : Mm_} {post : Option Av_ → Mm_ → Prop}
theorem ct_J6_bitCount_0f7a4 {x : Int} (hx : 0 ≤ x ∧ x < 256) (h : post (some (vi_ (pc_ x))) σ) : V_ l D mJ6_bitCount_0f7a4 (CM_ D mJ6_bitCount_0f7a4 post) 0 [some (vi_ x)] [] σ := by
  obtain ⟨q, rfl⟩ := i_nat hx.1
  rw [← bc_pc q (by omega)] at h
  refine V_iload_n (pc := 0) dJ6_bitCount_0f7a4_0 rfl rfl ?_
  refine V_iload_n (pc := 1) dJ6_bitCount_0f7a4_1 rfl rfl ?_
  refine V_iconst (pc := 2) dJ6_bitCount_0f7a4_2 ?_
  refine V_iushr (pc := 3) dJ6_bitCount_0f7a4_3 ?_
  refine V_ldcw (v := (1431655765)) (z := 1431655765) (pc := 4) dJ6_bitCount_0f7a4_4 (tb_in 566 (by decide +kernel) rfl) (by decide +kernel) ?_
  refine V_iand (pc := 7) dJ6_bitCount_0f7a4_7 ?_
  refine V_isub (pc := 8) dJ6_bitCount_0f7a4_8 ?_
  refine V_istore_n (pc := 9) dJ6_bitCount_0f7a4_9 rfl (by decide) rfl ?_
  show V_ _ _ _ _ _ [_] _ _
  refine V_iload_n (pc := 10) dJ6_bitCount_0f7a4_10 rfl rfl ?_
  refine V_ldcw (v := (858993459)) (z := 858993459) (pc := 11) dJ6_bitCount_0f7a4_11 (tb_in 567 (by decide +kernel) rfl) (by decide +kernel) ?_
  refine V_iand (pc := 14) dJ6_bitCount_0f7a4_14 ?_
  refine V_iload_n (pc := 15) dJ6_bitCount_0f7a4_15 rfl rfl ?_
  refine V_iconst (pc := 16) dJ6_bitCount_0f7a4_16 ?_
  refine V_iushr (pc := 17) dJ6_bitCount_0f7a4_17 ?_
  refine V_ldcw (v := (858993459)) (z := 858993459) (pc := 18) dJ6_bitCount_0f7a4_18 (tb_in 567 (by decide +kernel) rfl) (by decide +kernel) ?_
  refine V_iand (pc := 21) dJ6_bitCount_0f7a4_21 ?_
  refine V_iadd (pc := 22) dJ6_bitCount_0f7a4_22 ?_
  refine V_istore_n (pc := 23) dJ6_bitCount_0f7a4_23 rfl (by decide) rfl ?_
  show V_ _ _ _ _ _ [_] _ _
  refine V_iload_n (pc := 24) dJ6_bitCount_0f7a4_24 rfl rfl ?_
  refine V_iload_n (pc := 25) dJ6_bitCount_0f7a4_25 rfl rfl ?_
  refine V_iconst (pc := 26) dJ6_bitCount_0f7a4_26 ?_
  refine V_iushr (pc := 27) dJ6_bitCount_0f7a4_27 ?_
  refine V_iadd (pc := 28) dJ6_bitCount_0f7a4_28 ?_
  refine V_ldcw (v := (252645135)) (z := 252645135) (pc := 29) dJ6_bitCount_0f7a4_29 (tb_in 568 (by decide +kernel) rfl) (by decide +kernel) ?_
  refine V_iand (pc := 32) dJ6_bitCount_0f7a4_32 ?_
  refine V_istore_n (pc := 33) dJ6_bitCount_0f7a4_33 rfl (by decide) rfl ?_
  show V_ _ _ _ _ _ [_] _ _
  refine V_iload_n (pc := 34) dJ6_bitCount_0f7a4_34 rfl rfl ?_
  refine V_iload_n (pc := 35) dJ6_bitCount_0f7a4_35 rfl rfl ?_
  refine V_bipush (pc := 36) dJ6_bitCount_0f7a4_36 (by decide) ?_
  refine V_iushr (pc := 38) dJ6_bitCount_0f7a4_38 ?_
  refine V_iadd (pc := 39) dJ6_bitCount_0f7a4_39 ?_
  refine V_istore_n (pc := 40) dJ6_bitCount_0f7a4_40 rfl (by decide) rfl ?_
  show V_ _ _ _ _ _ [_] _ _
  refine V_iload_n (pc := 41) dJ6_bitCount_0f7a4_41 rfl rfl ?_
  refine V_iload_n (pc := 42) dJ6_bitCount_0f7a4_42 rfl rfl ?_
  refine V_bipush (pc := 43) dJ6_bitCount_0f7a4_43 (by decide) ?_
  refine V_iushr (pc := 45) dJ6_bitCount_0f7a4_45 ?_
  refine V_iadd (pc := 46) dJ6_bitCount_0f7a4_46 ?_
  refine V_istore_n (pc := 47) dJ6_bitCount_0f7a4_47 rfl (by decide) rfl ?_
  show V_ _ _ _ _ _ [_] _ _
  refine V_iload_n (pc := 48) dJ6_bitCount_0f7a4_48 rfl rfl ?_
  refine V_bipush (pc := 49) dJ6_bitCount_0f7a4_49 (by decide) ?_
  refine V_iand (pc := 51) dJ6_bitCount_0f7a4_51 ?_
  refine V_ireturn (pc := 52) dJ6_bitCount_0f7a4_52 rfl rfl (fun hR => ?_)
  exact h
theorem lp_X6_safe (h : CR_ a σ) (hK : ∀ σ1, CR_ a σ1 → Fm_ σ σ1 → post (some (vi_ (an_safe a))) σ1) : ∀ i : Nat, i ≤ (vv_ a 0 0).toNat → ∀ τ, F3_ σ τ → V_ l D mX6_safe (CM_ D mX6_safe post) 4 [some (vr_ 0), some (vi_ (bs_ (fun s => decide (si_ (vv_ a) 255 0 (s : Int) (bg_ (vv_ a)) 2 1 = 0)) i)), some (vi_ (i : Int))] [] τ := by
  have hW := vv_WF h.1.1
  have ws := hW.s
  refine up_ _ (fun i hi ih τ hF => ?_)
  have hc := h.f6 hF.f6
  have hC := hc.2.1
  have hD := hc.2.2
  have hb := bs_rg (fun s => decide (si_ (vv_ a) 255 0 (s : Int) (bg_ (vv_ a)) 2 1 = 0)) i
  have q7 : ((2 ^ i : Nat) : Int) ≤ 64 := by
    have : 2 ^ i ≤ 2 ^ 6 := Nat.pow_le_pow_right (by decide) (by omega)
    omega
  refine V_iload_n (pc := 4) dX6_safe_4 rfl rfl ?_
  refine V_aload_n (pc := 5) dX6_safe_5 rfl rfl ?_
  refine V_getr (pc := 6) dX6_safe_6 fX6_53 rfl gg_0 rfl ?_
  refine V_geti (pc := 9) dX6_safe_9 fX6_200 rfl gg_19 rfl (fun r9 => ?_)
  rw [hC.1] at r9 ⊢
  refine V_icmp_ge (tgt := 49) (pc := 12) dX6_safe_12 (by decide) (by first | assumption | decide | omega | exact ba_rg hR | exact b2_rg) (by first | assumption | decide | omega | exact ba_rg hR | exact b2_rg) (fun h12 => ?_) (fun h12 => ?_)
  · skip
    refine V_iload_n (pc := 49) dX6_safe_49 rfl rfl ?_
    refine V_ireturn (pc := 50) dX6_safe_50 rfl rfl (fun hR => ?_)
    exact rt_ (by unfold an_safe; rw [show (vv_ a 0 0).toNat = i by omega]) (hK _ hc hF.f6.fm)
  · skip
    refine V_aload_n (pc := 15) dX6_safe_15 rfl rfl ?_
    refine V_getr (pc := 16) dX6_safe_16 fX6_57 rfl gg_0 rfl ?_
    refine V_iload_n (pc := 19) dX6_safe_19 rfl rfl ?_
    refine V_sipush (pc := 20) dX6_safe_20 (by decide) ?_
    refine V_callV (pc := 23) (as := [_, _]) (rest := []) dX6_safe_23 ⟨kX6_203, iX3_loseAlone, by decide, by decide⟩ rc_29 rfl rfl (Nat.le_of_ble_eq_true rfl) (Nat.le_of_ble_eq_true rfl) ?_
    refine ct_X3_loseAlone hW (by decide) (by omega) hC hD (fun σ1 hB1 hB2 => ?_)
    show V_ _ _ _ _ _ _ [_] _
    refine V_pop (pc := 26) dX6_safe_26 rfl ?_
    refine V_aload_n (pc := 27) dX6_safe_27 rfl rfl ?_
    refine V_getr (pc := 28) dX6_safe_28 fX6_57 rfl gg_0 rfl ?_
    refine V_geti (pc := 31) dX6_safe_31 fX6_186 rfl gg_29 rfl (fun r31 => ?_)
    rw [hB1.2.2.2.1] at r31 ⊢
    refine V_if_ne (tgt := 43) (pc := 34) dX6_safe_34 (by decide) (by first | assumption | decide | omega | exact ba_rg hR | exact b2_rg) (fun h34 => ?_) (fun h34 => ?_)
    · skip
      have e0 : bs_ (fun s => decide (si_ (vv_ a) 255 0 (s : Int) (bg_ (vv_ a)) 2 1 = 0)) (i + 1) = bs_ (fun s => decide (si_ (vv_ a) 255 0 (s : Int) (bg_ (vv_ a)) 2 1 = 0)) i := by show (if _ then _ else _) = _; rw [if_neg (by simp only [decide_eq_true_eq]; exact h34)]
      refine V_iinc (pc := 43) dX6_safe_43 rfl (by decide) rfl ?_
      show V_ _ _ _ _ _ [_, _, _] _ _
      refine V_goto (tgt := 4) (pc := 46) dX6_safe_46 (by decide) ?_
      exact V_cg (ih (by omega) _ (hF.tr hB2)) (by rw [e0]; simp) rfl rfl
    · skip
      have e0 : bs_ (fun s => decide (si_ (vv_ a) 255 0 (s : Int) (bg_ (vv_ a)) 2 1 = 0)) (i + 1) = so_ (bs_ (fun s => decide (si_ (vv_ a) 255 0 (s : Int) (bg_ (vv_ a)) 2 1 = 0)) i) i := by show (if _ then _ else _) = _; rw [if_pos (by simp only [decide_eq_true_eq]; exact h34)]
      refine V_iload_n (pc := 37) dX6_safe_37 rfl rfl ?_
      refine V_iconst (pc := 38) dX6_safe_38 ?_
      refine V_iload_n (pc := 39) dX6_safe_39 rfl rfl ?_
      refine V_ishl (pc := 40) dX6_safe_40 ?_
      refine V_ior (pc := 41) dX6_safe_41 ?_
      rw [bit_or (by omega) (by omega)]
      refine V_istore_n (pc := 42) dX6_safe_42 rfl (by decide) rfl ?_
      show V_ _ _ _ _ _ [_, _, _] _ _
      refine V_iinc (pc := 43) dX6_safe_43 rfl (by decide) rfl ?_
      show V_ _ _ _ _ _ [_, _, _] _ _
      refine V_goto (tgt := 4) (pc := 46) dX6_safe_46 (by decide) ?_
      exact V_cg (ih (by omega) _ (hF.tr hB2)) (by rw [e0]; simp) rfl rfl
theorem ct_X6_safe (h : CR_ a σ) (hK : ∀ σ1, CR_ a σ1 → Fm_ σ σ1 → post (some (vi_ (an_safe a))) σ1) : V_ l D mX6_safe (CM_ D mX6_safe post) 0 [some (vr_ 0), none, none] [] σ := by
  refine V_iconst (pc := 0) dX6_safe_0 ?_
  refine V_istore_n (pc := 1) dX6_safe_1 rfl (by decide) rfl ?_
  show V_ _ _ _ _ _ [_, _, _] _ _
  refine V_iconst (pc := 2) dX6_safe_2 ?_
  refine V_istore_n (pc := 3) dX6_safe_3 rfl (by decide) rfl ?_
  show V_ _ _ _ _ _ [_, _, _] _ _
  exact V_cg (lp_X6_safe h hK 0 (Nat.zero_le _) _ F3_.rf) (by simp [bs_]) rfl rfl
theorem lp_X6_take {s : Int} (hs : wS_ (vv_ a) s) (h : CR_ a σ) (hK : ∀ σ1, CR_ a σ1 → Fm_ σ σ1 → post (some (vi_ (an_take a s))) σ1) : ∀ i : Nat, i ≤ ns_ (vv_ a) - 1 → V_ l D mX6_take (CM_ D mX6_take post) 21 [some (vr_ 0), some (vi_ s), some (vi_ (tk_ (vv_ a) s.toNat i).1), some (vi_ (tk_ (vv_ a) s.toNat i).2), some (vi_ ((i : Int) + 1)), none, none] [] σ := by
  have hA := h.1.1
  have hW := vv_WF hA
  have hC := h.2.1
  have wn := hW.n
  have ws := hW.s
  have wk := hW.k
  have hns := ns_rg hW
  refine up_ _ (fun i hi ih => ?_)
  have ht := tk_rg hW (s := s.toNat) (n := i)
  have hh := hs_rg hW (set := (i : Int) + 1) (n := (vv_ a 3 0).toNat) (by omega)
  have hp := pc_rg (x := (i : Int) + 1)
  have hp2 := pc_rg (x := (tk_ (vv_ a) s.toNat i).1)
  have wz := hW.si (k := s.toNat) (by omega)
  have hi2 : (i : Int) ≤ 256 := by omega
  refine V_iload (pc := 21) dX6_take_21 rfl ?_
  refine V_iconst (pc := 23) dX6_take_23 ?_
  refine V_aload_n (pc := 24) dX6_take_24 rfl rfl ?_
  refine V_getr (pc := 25) dX6_take_25 fX6_53 rfl gg_0 rfl ?_
  refine V_geti (pc := 28) dX6_take_28 fX6_206 rfl gg_19 rfl (fun r28 => ?_)
  rw [hC.2.1] at r28 ⊢
  refine V_ishl (pc := 31) dX6_take_31 ?_
  rw [ns_sh hW]
  refine V_icmp_ge (tgt := 122) (pc := 32) dX6_take_32 (by decide) (by first | assumption | decide | (constructor <;> omega)) (by first | assumption | decide | (constructor <;> omega)) (fun h32 => ?_) (fun h32 => ?_)
  · skip
    refine V_iload_n (pc := 122) dX6_take_122 rfl rfl ?_
    refine V_ireturn (pc := 123) dX6_take_123 rfl rfl (fun hR => ?_)
    exact rt_ (by unfold an_take; rw [if_pos hs, show ns_ (vv_ a) - 1 = i by omega]) (hK _ h Fm_.rf)
  · skip
    refine V_aload_n (pc := 35) dX6_take_35 rfl rfl ?_
    refine V_getr (pc := 36) dX6_take_36 fX6_53 rfl gg_0 rfl ?_
    refine V_iload (pc := 39) dX6_take_39 rfl ?_
    refine V_callV (pc := 41) (as := [_]) (rest := []) dX6_take_41 ⟨kX6_209, iX1_hasTogether, by decide, by decide⟩ rc_19 rfl rfl (Nat.le_of_ble_eq_true rfl) (Nat.le_of_ble_eq_true rfl) ?_
    refine ct_X1_hasTogether hW hC (by omega) ?_
    show V_ _ _ _ _ _ _ [_] _
    refine V_istore (pc := 44) dX6_take_44 (by decide) rfl ?_
    show V_ _ _ _ _ _ [_, _, _, _, _, _, _] _ _
    refine V_iload (pc := 46) dX6_take_46 rfl ?_
    refine V_aload_n (pc := 48) dX6_take_48 rfl rfl ?_
    refine V_geti (pc := 49) dX6_take_49 fX6_138 rfl gg_0 rfl (fun r49 => ?_)
    rw [show σ 0 9 = vv_ a 11 0 from h.1.2.2.1.1] at r49 ⊢
    refine V_iand (pc := 52) dX6_take_52 ?_
    refine V_if_ne (tgt := 116) (pc := 53) dX6_take_53 (by decide) (i3_rg _) (fun h53 => ?_) (fun h53 => ?_)
    · skip
      have e0 : tk_ (vv_ a) s.toNat (i + 1) = tk_ (vv_ a) s.toNat i := by rw [tk_, if_pos (Or.inl h53)]
      refine V_iinc (pc := 116) dX6_take_116 rfl (by decide) rfl ?_
      show V_ _ _ _ _ _ [_, _, _, _, _, _, _] _ _
      refine V_goto (tgt := 21) (pc := 119) dX6_take_119 (by decide) ?_
      refine V_none (k := 5) ?_
      show V_ _ _ _ _ _ [_, _, _, _, _, _, _] _ _
      exact V_cg (ih (by omega)) (by rw [e0]; simp) rfl rfl
    · skip
      refine V_iload (pc := 56) dX6_take_56 rfl ?_
      refine V_aload_n (pc := 58) dX6_take_58 rfl rfl ?_
      refine V_getr (pc := 59) dX6_take_59 fX6_53 rfl gg_0 rfl ?_
      refine V_getr (pc := 62) dX6_take_62 fX6_104 rfl gg_19 rfl ?_
      refine V_iload_n (pc := 65) dX6_take_65 rfl rfl ?_
      refine V_iald (pc := 66) dX6_take_66 gg_20 (by omega) (by decide) (fun r66 => ?_)
      rw [(hC.si (k := s.toNat) (by omega)).1] at r66 ⊢
      refine V_icmp_ge (tgt := 73) (pc := 67) dX6_take_67 (by decide) (by first | assumption | decide | (constructor <;> omega)) (by first | assumption | decide | (constructor <;> omega)) (fun h67 => ?_) (fun h67 => ?_)
      · skip
        refine V_iload_n (pc := 73) dX6_take_73 rfl rfl ?_
        refine V_iconst (pc := 74) dX6_take_74 ?_
        refine V_icmp_ne (tgt := 82) (pc := 75) dX6_take_75 (by decide) (by first | assumption | decide | (constructor <;> omega)) (by first | assumption | decide | (constructor <;> omega)) (fun h75 => ?_) (fun h75 => ?_)
        · skip
          refine V_iload (pc := 82) dX6_take_82 rfl ?_
          refine V_callS (pc := 84) (as := [_]) (rest := []) dX6_take_84 ⟨kX6_212, sJ6_bitCount_0f7a4, by decide, by decide⟩ rfl rfl (Nat.le_of_ble_eq_true rfl) (Nat.le_of_ble_eq_true rfl) ?_
          refine ct_J6_bitCount_0f7a4 (by omega) ?_
          show V_ _ _ _ _ _ _ [_] _
          refine V_iload_n (pc := 87) dX6_take_87 rfl rfl ?_
          refine V_callS (pc := 88) (as := [_]) (rest := [_]) dX6_take_88 ⟨kX6_212, sJ6_bitCount_0f7a4, by decide, by decide⟩ rfl rfl (Nat.le_of_ble_eq_true rfl) (Nat.le_of_ble_eq_true rfl) ?_
          refine ct_J6_bitCount_0f7a4 (by omega) ?_
          show V_ _ _ _ _ _ _ [_, _] _
          refine V_isub (pc := 91) dX6_take_91 ?_
          refine V_istore (pc := 92) dX6_take_92 (by decide) rfl ?_
          show V_ _ _ _ _ _ [_, _, _, _, _, _, _] _ _
          refine V_iload (pc := 94) dX6_take_94 rfl ?_
          refine V_if_lt (tgt := 110) (pc := 96) dX6_take_96 (by decide) (by first | assumption | decide | (constructor <;> omega)) (fun h96 => ?_) (fun h96 => ?_)
          · skip
            refine V_iload (pc := 110) dX6_take_110 rfl ?_
            refine V_istore_n (pc := 112) dX6_take_112 rfl (by decide) rfl ?_
            show V_ _ _ _ _ _ [_, _, _, _, _, _, _] _ _
            refine V_iload (pc := 113) dX6_take_113 rfl ?_
            refine V_istore_n (pc := 115) dX6_take_115 rfl (by decide) rfl ?_
            show V_ _ _ _ _ _ [_, _, _, _, _, _, _] _ _
            refine V_iinc (pc := 116) dX6_take_116 rfl (by decide) rfl ?_
            show V_ _ _ _ _ _ [_, _, _, _, _, _, _] _ _
            refine V_goto (tgt := 21) (pc := 119) dX6_take_119 (by decide) ?_
            refine V_none (k := 5) ?_
            show V_ _ _ _ _ _ [_, _, _, _, _, _, _] _ _
            refine V_none (k := 6) ?_
            show V_ _ _ _ _ _ [_, _, _, _, _, _, _] _ _
            have e0 : tk_ (vv_ a) s.toNat (i + 1) = ((i : Int) + 1, hs_ (vv_ a) ((i : Int) + 1) (vv_ a 3 0).toNat) := by rw [tk_, if_neg (fun z => z.elim (fun z => z h53) (fun z => absurd z (by omega))), if_pos (by omega)]
            exact V_cg (ih (by omega)) (by rw [e0]; simp) rfl rfl
          · skip
            refine V_iload (pc := 99) dX6_take_99 rfl ?_
            refine V_if_ne (tgt := 116) (pc := 101) dX6_take_101 (by decide) (by first | assumption | decide | (constructor <;> omega)) (fun h101 => ?_) (fun h101 => ?_)
            · skip
              refine V_iinc (pc := 116) dX6_take_116 rfl (by decide) rfl ?_
              show V_ _ _ _ _ _ [_, _, _, _, _, _, _] _ _
              refine V_goto (tgt := 21) (pc := 119) dX6_take_119 (by decide) ?_
              refine V_none (k := 5) ?_
              show V_ _ _ _ _ _ [_, _, _, _, _, _, _] _ _
              refine V_none (k := 6) ?_
              show V_ _ _ _ _ _ [_, _, _, _, _, _, _] _ _
              have e0 : tk_ (vv_ a) s.toNat (i + 1) = tk_ (vv_ a) s.toNat i := by rw [tk_, if_neg (fun z => z.elim (fun z => z h53) (fun z => absurd z (by omega))), if_neg (by omega)]
              exact V_cg (ih (by omega)) (by rw [e0]; simp) rfl rfl
            · skip
              refine V_iload (pc := 104) dX6_take_104 rfl ?_
              refine V_iload_n (pc := 106) dX6_take_106 rfl rfl ?_
              refine V_icmp_ge (tgt := 116) (pc := 107) dX6_take_107 (by decide) (by first | assumption | decide | (constructor <;> omega)) (by first | assumption | decide | (constructor <;> omega)) (fun h107 => ?_) (fun h107 => ?_)
              · skip
                refine V_iinc (pc := 116) dX6_take_116 rfl (by decide) rfl ?_
                show V_ _ _ _ _ _ [_, _, _, _, _, _, _] _ _
                refine V_goto (tgt := 21) (pc := 119) dX6_take_119 (by decide) ?_
                refine V_none (k := 5) ?_
                show V_ _ _ _ _ _ [_, _, _, _, _, _, _] _ _
                refine V_none (k := 6) ?_
                show V_ _ _ _ _ _ [_, _, _, _, _, _, _] _ _
                have e0 : tk_ (vv_ a) s.toNat (i + 1) = tk_ (vv_ a) s.toNat i := by rw [tk_, if_neg (fun z => z.elim (fun z => z h53) (fun z => absurd z (by omega))), if_neg (by omega)]
                exact V_cg (ih (by omega)) (by rw [e0]; simp) rfl rfl
              · skip
                refine V_iload (pc := 110) dX6_take_110 rfl ?_
                refine V_istore_n (pc := 112) dX6_take_112 rfl (by decide) rfl ?_
                show V_ _ _ _ _ _ [_, _, _, _, _, _, _] _ _
                refine V_iload (pc := 113) dX6_take_113 rfl ?_
                refine V_istore_n (pc := 115) dX6_take_115 rfl (by decide) rfl ?_
                show V_ _ _ _ _ _ [_, _, _, _, _, _, _] _ _
                refine V_iinc (pc := 116) dX6_take_116 rfl (by decide) rfl ?_
                show V_ _ _ _ _ _ [_, _, _, _, _, _, _] _ _
                refine V_goto (tgt := 21) (pc := 119) dX6_take_119 (by decide) ?_
                refine V_none (k := 5) ?_
                show V_ _ _ _ _ _ [_, _, _, _, _, _, _] _ _
                refine V_none (k := 6) ?_
                show V_ _ _ _ _ _ [_, _, _, _, _, _, _] _ _
                have e0 : tk_ (vv_ a) s.toNat (i + 1) = ((i : Int) + 1, hs_ (vv_ a) ((i : Int) + 1) (vv_ a 3 0).toNat) := by rw [tk_, if_neg (fun z => z.elim (fun z => z h53) (fun z => absurd z (by omega))), if_pos (by omega)]
                exact V_cg (ih (by omega)) (by rw [e0]; simp) rfl rfl
        · skip
          skip
          refine V_iconst (pc := 78) dX6_take_78 ?_
          refine V_goto (tgt := 92) (pc := 79) dX6_take_79 (by decide) ?_
          refine V_istore (pc := 92) dX6_take_92 (by decide) rfl ?_
          show V_ _ _ _ _ _ [_, _, _, _, _, _, _] _ _
          refine V_iload (pc := 94) dX6_take_94 rfl ?_
          refine V_if_lt (tgt := 110) (pc := 96) dX6_take_96 (by decide) (by first | assumption | decide | (constructor <;> omega)) (fun h96 => ?_) (fun h96 => by exact absurd h96 (by decide))
          refine V_iload (pc := 110) dX6_take_110 rfl ?_
          refine V_istore_n (pc := 112) dX6_take_112 rfl (by decide) rfl ?_
          show V_ _ _ _ _ _ [_, _, _, _, _, _, _] _ _
          refine V_iload (pc := 113) dX6_take_113 rfl ?_
          refine V_istore_n (pc := 115) dX6_take_115 rfl (by decide) rfl ?_
          show V_ _ _ _ _ _ [_, _, _, _, _, _, _] _ _
          refine V_iinc (pc := 116) dX6_take_116 rfl (by decide) rfl ?_
          show V_ _ _ _ _ _ [_, _, _, _, _, _, _] _ _
          refine V_goto (tgt := 21) (pc := 119) dX6_take_119 (by decide) ?_
          refine V_none (k := 5) ?_
          show V_ _ _ _ _ _ [_, _, _, _, _, _, _] _ _
          refine V_none (k := 6) ?_
          show V_ _ _ _ _ _ [_, _, _, _, _, _, _] _ _
          have e0 : tk_ (vv_ a) s.toNat (i + 1) = ((i : Int) + 1, hs_ (vv_ a) ((i : Int) + 1) (vv_ a 3 0).toNat) := by rw [tk_, if_neg (fun z => z.elim (fun z => z h53) (fun z => absurd z (by omega))), if_pos (by omega)]
          exact V_cg (ih (by omega)) (by rw [e0]; simp) rfl rfl
      · skip
        have e0 : tk_ (vv_ a) s.toNat (i + 1) = tk_ (vv_ a) s.toNat i := by rw [tk_, if_pos (Or.inr h67)]
        refine V_goto (tgt := 116) (pc := 70) dX6_take_70 (by decide) ?_
        refine V_iinc (pc := 116) dX6_take_116 rfl (by decide) rfl ?_
        show V_ _ _ _ _ _ [_, _, _, _, _, _, _] _ _
        refine V_goto (tgt := 21) (pc := 119) dX6_take_119 (by decide) ?_
        refine V_none (k := 5) ?_
        show V_ _ _ _ _ _ [_, _, _, _, _, _, _] _ _
        exact V_cg (ih (by omega)) (by rw [e0]; simp) rfl rfl
theorem ct_X6_take {s : Int} (hs0 : Rg_ s) (h : CR_ a σ) (hK : ∀ σ1, CR_ a σ1 → Fm_ σ σ1 → post (some (vi_ (an_take a s))) σ1) : V_ l D mX6_take (CM_ D mX6_take post) 0 [some (vr_ 0), some (vi_ s), none, none, none, none, none] [] σ := by
  have hA := h.1.1
  have hW := vv_WF hA
  have hC := h.2.1
  have hD := h.2.2
  have ws := hW.s
  have wn := hW.n
  have wl := hW.l
  refine V_aload_n (pc := 0) dX6_take_0 rfl rfl ?_
  refine V_getr (pc := 1) dX6_take_1 fX6_53 rfl gg_0 rfl ?_
  refine V_iload_n (pc := 4) dX6_take_4 rfl rfl ?_
  refine V_callV (pc := 5) (as := [_]) (rest := []) dX6_take_5 ⟨kX6_100, iX1_hasShip, by decide, by decide⟩ rc_19 rfl rfl (Nat.le_of_ble_eq_true rfl) (Nat.le_of_ble_eq_true rfl) ?_
  refine ct_X1_hasShip (by first | assumption | decide | omega | exact ba_rg hR | exact b2_rg) hC.1 ?_
  show V_ _ _ _ _ _ _ [_] _
  refine V_if_ne (tgt := 14) (pc := 8) dX6_take_8 (by decide) (by first | assumption | decide | omega | exact ba_rg hR | exact b2_rg) (fun h8 => ?_) (fun h8 => ?_)
  · skip
    rw [b2_n0] at h8
    refine V_iconst (pc := 14) dX6_take_14 ?_
    refine V_istore_n (pc := 15) dX6_take_15 rfl (by decide) rfl ?_
    show V_ _ _ _ _ _ [_, _, _, _, _, _, _] _ _
    refine V_iconst (pc := 16) dX6_take_16 ?_
    refine V_istore_n (pc := 17) dX6_take_17 rfl (by decide) rfl ?_
    show V_ _ _ _ _ _ [_, _, _, _, _, _, _] _ _
    refine V_iconst (pc := 18) dX6_take_18 ?_
    refine V_istore (pc := 19) dX6_take_19 (by decide) rfl ?_
    show V_ _ _ _ _ _ [_, _, _, _, _, _, _] _ _
    exact V_cg (lp_X6_take h8 h hK 0 (Nat.zero_le _)) (by simp [tk_]) rfl rfl
  · skip
    rw [b2_0] at h8
    refine V_bipush (pc := 11) dX6_take_11 (by decide) ?_
    refine V_ireturn (pc := 13) dX6_take_13 rfl rfl (fun hR => ?_)
    exact rt_ (by unfold an_take; first | rfl | ((repeat' split) <;> first | rfl | (exfalso; omega))) (hK σ h (Fm_.rf))
theorem ct_X6_strike {k z : Int} (hk : Rg_ k) (hz : Rg_ z) (h : CR_ a σ) (hK : ∀ σ1, CR_ a σ1 → Fm_ σ σ1 → post (some (vi_ (an_strike a k z))) σ1) : V_ l D mX6_strike (CM_ D mX6_strike post) 0 [some (vr_ 0), some (vi_ k), some (vi_ z), none, none] [] σ := by
  have hA := h.1.1
  have hW := vv_WF hA
  have hC := h.2.1
  have hD := h.2.2
  have ws := hW.s
  have wn := hW.n
  have wl := hW.l
  have wk := hW.k
  have h9 : σ 0 9 = a 4 0 := h.1.2.2.1.1
  have w4 : 0 ≤ a 4 0 ∧ a 4 0 ≤ 255 := hA.2.2.1
  have hb := bt2_rg hW (k := k) (n := (vv_ a 0 0).toNat) (by omega)
  refine V_aload_n (pc := 0) dX6_strike_0 rfl rfl ?_
  refine V_getr (pc := 1) dX6_strike_1 fX6_53 rfl gg_0 rfl ?_
  refine V_iload_n (pc := 4) dX6_strike_4 rfl rfl ?_
  refine V_callV (pc := 5) (as := [_]) (rest := []) dX6_strike_5 ⟨kX6_111, iX1_hasName, by decide, by decide⟩ rc_19 rfl rfl (Nat.le_of_ble_eq_true rfl) (Nat.le_of_ble_eq_true rfl) ?_
  refine ct_X1_hasName (by first | assumption | decide | (constructor <;> omega)) hC.2.1 ?_
  show V_ _ _ _ _ _ _ [_] _
  refine V_if_eq (tgt := 22) (pc := 8) dX6_strike_8 (by decide) b2_rg (fun h8 => ?_) (fun h8 => ?_)
  · skip
    rw [b2_0] at h8
    refine V_sipush (pc := 22) dX6_strike_22 (by decide) ?_
    refine V_ireturn (pc := 25) dX6_strike_25 rfl rfl (fun hR => ?_)
    exact rt_ (by unfold an_strike; first | rfl | ((repeat' split) <;> first | rfl | (exfalso; omega))) (hK σ h (Fm_.rf))
  · skip
    rw [b2_n0] at h8
    refine V_aload_n (pc := 11) dX6_strike_11 rfl rfl ?_
    refine V_getr (pc := 12) dX6_strike_12 fX6_53 rfl gg_0 rfl ?_
    refine V_iload_n (pc := 15) dX6_strike_15 rfl rfl ?_
    refine V_callV (pc := 16) (as := [_]) (rest := []) dX6_strike_16 ⟨kX6_111, iX1_hasName, by decide, by decide⟩ rc_19 rfl rfl (Nat.le_of_ble_eq_true rfl) (Nat.le_of_ble_eq_true rfl) ?_
    refine ct_X1_hasName (by first | assumption | decide | (constructor <;> omega)) hC.2.1 ?_
    show V_ _ _ _ _ _ _ [_] _
    refine V_if_ne (tgt := 26) (pc := 19) dX6_strike_19 (by decide) b2_rg (fun h19 => ?_) (fun h19 => ?_)
    · skip
      rw [b2_n0] at h19
      refine V_aload_n (pc := 26) dX6_strike_26 rfl rfl ?_
      refine V_getr (pc := 27) dX6_strike_27 fX6_53 rfl gg_0 rfl ?_
      refine V_iload_n (pc := 30) dX6_strike_30 rfl rfl ?_
      refine V_callV (pc := 31) (as := [_]) (rest := []) dX6_strike_31 ⟨kX6_217, iX1_dueOfAllShips, by decide, by decide⟩ rc_19 rfl rfl (Nat.le_of_ble_eq_true rfl) (Nat.le_of_ble_eq_true rfl) ?_
      refine ct_X1_dueOfAllShips hW hC hD hk ?_
      show V_ _ _ _ _ _ _ [_] _
      refine V_istore_n (pc := 34) dX6_strike_34 rfl (by decide) rfl ?_
      show V_ _ _ _ _ _ [_, _, _, _, _] _ _
      refine V_aload_n (pc := 35) dX6_strike_35 rfl rfl ?_
      refine V_getr (pc := 36) dX6_strike_36 fX6_53 rfl gg_0 rfl ?_
      refine V_aload_n (pc := 39) dX6_strike_39 rfl rfl ?_
      refine V_geti (pc := 40) dX6_strike_40 fX6_138 rfl gg_0 rfl (fun r40 => ?_)
      rw [h9] at r40 ⊢
      refine V_iconst (pc := 43) dX6_strike_43 ?_
      refine V_iload_n (pc := 44) dX6_strike_44 rfl rfl ?_
      refine V_ishl (pc := 45) dX6_strike_45 ?_
      refine V_ior (pc := 46) dX6_strike_46 ?_
      rw [bit_or (by omega) (by omega)]
      have hso := so_rg (s := a 4 0) (k := z) (m := 8) ⟨w4.1, by have := w4.2; omega⟩ ⟨by omega, by omega⟩
      have hW2 := hW.vs (x := (so_ (a 4 0) z)) (by omega)
      refine V_callV (pc := 47) (as := [_]) (rest := []) dX6_strike_47 ⟨kX6_220, iX1_strikeOut, by decide, by decide⟩ rc_19 rfl rfl (Nat.le_of_ble_eq_true rfl) (Nat.le_of_ble_eq_true rfl) ?_
      refine ct_X1_strikeOut (v := (vs_ (vv_ a) (so_ (a 4 0) z))) hW2 hC.vs (by show _ = ms_ _ _ _ _ _ _; rw [ms_eq]) ?_
      show V_ _ _ _ _ _ _ [] _
      generalize hτ : wr_ (wr_ (wr_ σ 27 (fun k => bb_ (vs_ (vv_ a) (so_ (a 4 0) z)) (k : Int)) ((vs_ (vv_ a) (so_ (a 4 0) z)) 3 0).toNat) 28 (fun k => du_ (vs_ (vv_ a) (so_ (a 4 0) z)) k) ((vs_ (vv_ a) (so_ (a 4 0) z)) 7 0).toNat) 10 (fun k => pp_ (vs_ (vv_ a) (so_ (a 4 0) z)) k) ((vs_ (vv_ a) (so_ (a 4 0) z)) 7 0).toNat = τ
      have hCt : HC_ (vs_ (vv_ a) (so_ (a 4 0) z)) τ := by rw [← hτ]; exact hC.vs.cg (fun a b h1 h2 => by rw [wr_rw (by omega), wr_rw (by omega), wr_rw (by omega)])
      have hCt0 : HC_ (vv_ a) τ := by rw [← hτ]; exact hC.cg (fun a b h1 h2 => by rw [wr_rw (by omega), wr_rw (by omega), wr_rw (by omega)])
      have hDt : HD_ (vs_ (vv_ a) (so_ (a 4 0) z)) τ := by
        have wn2 := hW2.n
        have wl2 := hW2.l
        rw [← hτ]
        exact ⟨fun j hj => by rw [wr_nk (by decide), wr_nk (by decide), wr_in (by omega)], fun j hj => by rw [wr_nk (by decide), wr_in (by omega)], fun j hj => by rw [wr_in (by omega)]⟩
      have h9t : τ 0 9 = a 4 0 := by rw [← hτ, wr_nk (by decide), wr_nk (by decide), wr_nk (by decide)]; exact h9
      have hft : ∀ q, q ≠ 27 → q ≠ 28 → q ≠ 10 → τ q = σ q := fun q h1 h2 h3 => by rw [← hτ, wr_rw h3, wr_rw h2, wr_rw h1]
      refine V_aload_n (pc := 50) dX6_strike_50 rfl rfl ?_
      refine V_getr (pc := 51) dX6_strike_51 fX6_53 rfl gg_0 rfl ?_
      refine V_iload_n (pc := 54) dX6_strike_54 rfl rfl ?_
      refine V_callV (pc := 55) (as := [_]) (rest := []) dX6_strike_55 ⟨kX6_217, iX1_dueOfAllShips, by decide, by decide⟩ rc_19 rfl rfl (Nat.le_of_ble_eq_true rfl) (Nat.le_of_ble_eq_true rfl) ?_
      refine ct_X1_dueOfAllShips hW2 hCt hDt hk ?_
      show V_ _ _ _ _ _ _ [_] _
      refine V_istore (pc := 58) dX6_strike_58 (by decide) rfl ?_
      show V_ _ _ _ _ _ [_, _, _, _, _] _ _
      rw [show ((vs_ (vv_ a) (so_ (a 4 0) z)) 0 0).toNat = (vv_ a 0 0).toNat from rfl]
      refine V_aload_n (pc := 60) dX6_strike_60 rfl rfl ?_
      refine V_getr (pc := 61) dX6_strike_61 fX6_53 rfl gg_0 rfl ?_
      refine V_aload_n (pc := 64) dX6_strike_64 rfl rfl ?_
      refine V_geti (pc := 65) dX6_strike_65 fX6_138 rfl gg_0 rfl (fun r65 => ?_)
      rw [h9t] at r65 ⊢
      refine V_callV (pc := 68) (as := [_]) (rest := []) dX6_strike_68 ⟨kX6_220, iX1_strikeOut, by decide, by decide⟩ rc_19 rfl rfl (Nat.le_of_ble_eq_true rfl) (Nat.le_of_ble_eq_true rfl) ?_
      refine ct_X1_strikeOut (v := vv_ a) hW hCt0 rfl ?_
      show V_ _ _ _ _ _ _ [] _
      refine V_iload (pc := 71) dX6_strike_71 rfl ?_
      refine V_iload_n (pc := 73) dX6_strike_73 rfl rfl ?_
      refine V_isub (pc := 74) dX6_strike_74 ?_
      refine V_ireturn (pc := 75) dX6_strike_75 rfl rfl (fun hR => ?_)
      refine rt_ (by unfold an_strike; rw [if_pos ⟨h8, h19⟩]) (hK _ ⟨h.1.cg (fun q hq hq2 => by rw [wr_rw (by omega), wr_rw (by omega), wr_rw (by omega), hft q (by omega) (by omega) (by omega)]) (by rw [wr_rw (by omega), wr_rw (by omega), wr_rw (by omega), hft _ (by omega) (by omega) (by omega)]) (by rw [wr_rw (by omega), wr_rw (by omega), wr_rw (by omega), hft _ (by omega) (by omega) (by omega)]) (by rw [wr_rw (by omega), wr_rw (by omega), wr_rw (by omega), hft _ (by omega) (by omega) (by omega)]), ?_, ?_⟩ (fun q hq => by rw [wr_rw (by omega), wr_rw (by omega), wr_rw (by omega), hft q (by omega) (by omega) (by omega)]))
      · exact hCt0.cg (fun a b h1 h2 => by rw [wr_rw (by omega), wr_rw (by omega), wr_rw (by omega)])
      · exact ⟨fun j hj => by rw [wr_nk (by decide), wr_nk (by decide), wr_in (by omega)], fun j hj => by rw [wr_nk (by decide), wr_in (by omega)], fun j hj => by rw [wr_in (by omega)]⟩
    · skip
      rw [b2_0] at h19
      refine V_sipush (pc := 22) dX6_strike_22 (by decide) ?_
      refine V_ireturn (pc := 25) dX6_strike_25 rfl rfl (fun hR => ?_)
      exact rt_ (by unfold an_strike; first | rfl | ((repeat' split) <;> first | rfl | (exfalso; omega))) (hK σ h (Fm_.rf))
theorem ct_X6_sound {w : Int} (hw : Rg_ w) (h : CR_ a σ) (hK : ∀ σ1, CR_ a σ1 → Fm_ σ σ1 → post (some (vi_ (an_sound a w))) σ1) : V_ l D mX6_sound (CM_ D mX6_sound post) 0 [some (vr_ 0), some (vi_ w)] [] σ := by
  have hA := h.1.1
  have hW := vv_WF hA
  have hC := h.2.1
  have hD := h.2.2
  have ws := hW.s
  have wn := hW.n
  have wl := hW.l
  refine V_iload_n (pc := 0) dX6_sound_0 rfl rfl ?_
  refine V_iconst (pc := 1) dX6_sound_1 ?_
  refine V_callS (pc := 2) (as := [_, _]) (rest := []) dX6_sound_2 ⟨kX6_78, sX6_isWithin, by decide, by decide⟩ rfl rfl (Nat.le_of_ble_eq_true rfl) (Nat.le_of_ble_eq_true rfl) ?_
  refine ct_X6_isWithin (by first | assumption | decide | omega | exact ba_rg hR | exact b2_rg) (by first | assumption | decide | omega | exact ba_rg hR | exact b2_rg) ?_
  show V_ _ _ _ _ _ _ [_] _
  refine V_if_ne (tgt := 11) (pc := 5) dX6_sound_5 (by decide) (by first | assumption | decide | omega | exact ba_rg hR | exact b2_rg) (fun h5 => ?_) (fun h5 => ?_)
  · skip
    rw [b2_n0] at h5
    refine V_aload_n (pc := 11) dX6_sound_11 rfl rfl ?_
    refine V_getr (pc := 12) dX6_sound_12 fX6_69 rfl gg_0 rfl ?_
    refine V_callV (pc := 15) (as := []) (rest := []) dX6_sound_15 ⟨kX6_223, iX0_weigh, by decide, by decide⟩ rc_35 rfl rfl (Nat.le_of_ble_eq_true rfl) (Nat.le_of_ble_eq_true rfl) ?_
    refine ct_X0_weigh (w := ww_ a) hW hA.2.2.2.2.1 hC hD h.1.2.2.2.2.1 (fun σ1 hB1 hB2 => ?_)
    have hc1 := h.f6 hB2
    have hf1 := hB2.fm
    show V_ _ _ _ _ _ _ [] _
    refine V_iload_n (pc := 18) dX6_sound_18 rfl rfl ?_
    refine V_if_ne (tgt := 32) (pc := 19) dX6_sound_19 (by decide) (by first | assumption | decide | omega | exact ba_rg hR | exact b2_rg) (fun h19 => ?_) (fun h19 => ?_)
    · skip
      refine V_aload_n (pc := 32) dX6_sound_32 rfl rfl ?_
      refine V_getr (pc := 33) dX6_sound_33 fX6_69 rfl gg_0 rfl ?_
      refine V_geti (pc := 36) dX6_sound_36 fX6_229 rfl gg_35 rfl (fun r36 => ?_)
      rw [hB1.2.1] at r36 ⊢
      refine V_ireturn (pc := 39) dX6_sound_39 rfl rfl (fun hR => ?_)
      exact rt_ (by unfold an_sound; first | rfl | ((repeat' split) <;> first | rfl | (exfalso; omega))) (hK _ hc1 (hf1))
    · skip
      refine V_aload_n (pc := 22) dX6_sound_22 rfl rfl ?_
      refine V_getr (pc := 23) dX6_sound_23 fX6_69 rfl gg_0 rfl ?_
      refine V_geti (pc := 26) dX6_sound_26 fX6_226 rfl gg_35 rfl (fun r26 => ?_)
      rw [hB1.1] at r26 ⊢
      refine V_goto (tgt := 39) (pc := 29) dX6_sound_29 (by decide) ?_
      refine V_ireturn (pc := 39) dX6_sound_39 rfl rfl (fun hR => ?_)
      exact rt_ (by unfold an_sound; first | rfl | ((repeat' split) <;> first | rfl | (exfalso; omega))) (hK _ hc1 (hf1))
  · skip
    rw [b2_0] at h5
    refine V_bipush (pc := 8) dX6_sound_8 (by decide) ?_
    refine V_ireturn (pc := 10) dX6_sound_10 rfl rfl (fun hR => ?_)
    exact rt_ (by unfold an_sound; first | rfl | ((repeat' split) <;> first | rfl | (exfalso; omega))) (hK σ h (Fm_.rf))
theorem ct_X6_press (h : CR_ a σ) (hK : ∀ σ1, CR_ a σ1 → Fm_ σ σ1 → post (some (vi_ (an_press a))) σ1) : V_ l D mX6_press (CM_ D mX6_press post) 0 [some (vr_ 0)] [] σ := by
  have hA := h.1.1
  have hW := vv_WF hA
  have hC := h.2.1
  have hD := h.2.2
  have ws := hW.s
  have wn := hW.n
  have wl := hW.l
  refine V_aload_n (pc := 0) dX6_press_0 rfl rfl ?_
  refine V_getr (pc := 1) dX6_press_1 fX6_69 rfl gg_0 rfl ?_
  refine V_callV (pc := 4) (as := []) (rest := []) dX6_press_4 ⟨kX6_223, iX0_weigh, by decide, by decide⟩ rc_35 rfl rfl (Nat.le_of_ble_eq_true rfl) (Nat.le_of_ble_eq_true rfl) ?_
  refine ct_X0_weigh (w := ww_ a) hW hA.2.2.2.2.1 hC hD h.1.2.2.2.2.1 (fun σ1 hB1 hB2 => ?_)
  have hc1 := h.f6 hB2
  have hf1 := hB2.fm
  show V_ _ _ _ _ _ _ [] _
  refine V_aload_n (pc := 7) dX6_press_7 rfl rfl ?_
  refine V_getr (pc := 8) dX6_press_8 fX6_69 rfl gg_0 rfl ?_
  refine V_callV (pc := 11) (as := []) (rest := []) dX6_press_11 ⟨kX6_232, iX0_shipToPress, by decide, by decide⟩ rc_35 rfl rfl (Nat.le_of_ble_eq_true rfl) (Nat.le_of_ble_eq_true rfl) ?_
  refine ct_X0_shipToPress (w := ww_ a) hW hc1.2.1 hc1.2.2 hB1.2.2 (fun σ2 hE1 hE2 => ?_)
  show V_ _ _ _ _ _ _ [_] _
  refine V_ireturn (pc := 14) dX6_press_14 rfl rfl (fun hR => ?_)
  exact hK _ (hc1.f6 hE2) (hf1.tr hE2.fm)
theorem lp_X6_partOfFraction {w : Int} (hw : Rg_ w) {x0 z0 : Int} : ∀ n : Nat, n ≤ 31 → ∀ x z : Int, (0 ≤ x ∧ x ≤ 2147483647) → (1 ≤ z ∧ z < ((2 ^ n : Nat) : Int) ∧ z ≤ 2147483647) → post (some (vl_ (if w = 0 then (ph_ n x z).1 else (ph_ n x z).2))) σ → V_ l D mX6_partOfFraction (CM_ D mX6_partOfFraction post) 5 [some (vi_ x0), some (vi_ z0), some (vi_ w), some (vi_ x), some (vi_ z)] [] σ := by
  intro n
  induction n with
  | zero => intro _ x z hx hz h; simp at hz; omega
  | succ n ih =>
    intro hn x z hx hz h
    have hz2 : ((2 ^ (n + 1) : Nat) : Int) = 2 * ((2 ^ n : Nat) : Int) := by rw [Nat.pow_succ]; omega
    have e : ph_ (n + 1) x z = if 1 < z ∧ x % 2 = 0 then ph_ n (x / 2) (z / 2) else (x, z) := rfl
    rw [e] at h
    refine V_iload (pc := 5) dX6_partOfFraction_5 rfl ?_
    refine V_iconst (pc := 7) dX6_partOfFraction_7 ?_
    refine V_icmp_le (tgt := 30) (pc := 8) dX6_partOfFraction_8 (by decide) (by first | assumption | decide | (constructor <;> omega)) (by first | assumption | decide | (constructor <;> omega)) (fun h8 => ?_) (fun h8 => ?_)
    · skip
      rw [if_neg (show ¬ (1 < z ∧ x % 2 = 0) by omega)] at h
      refine V_iload_n (pc := 30) dX6_partOfFraction_30 rfl rfl ?_
      refine V_if_ne (tgt := 39) (pc := 31) dX6_partOfFraction_31 (by decide) (by first | assumption | decide | (constructor <;> omega)) (fun h31 => ?_) (fun h31 => ?_)
      · skip
        refine V_iload (pc := 39) dX6_partOfFraction_39 rfl ?_
        refine V_i2l (pc := 41) dX6_partOfFraction_41 (by first | assumption | decide | (constructor <;> omega)) ?_
        refine V_lreturn (pc := 42) dX6_partOfFraction_42 rfl (fun hR => ?_)
        first | (rw [if_pos (by assumption)] at h; exact h) | (rw [if_neg (by assumption)] at h; exact h)
      · skip
        refine V_iload_n (pc := 34) dX6_partOfFraction_34 rfl rfl ?_
        refine V_i2l (pc := 35) dX6_partOfFraction_35 (by first | assumption | decide | (constructor <;> omega)) ?_
        refine V_goto (tgt := 42) (pc := 36) dX6_partOfFraction_36 (by decide) ?_
        refine V_lreturn (pc := 42) dX6_partOfFraction_42 rfl (fun hR => ?_)
        first | (rw [if_pos (by assumption)] at h; exact h) | (rw [if_neg (by assumption)] at h; exact h)
    · skip
      refine V_iload_n (pc := 11) dX6_partOfFraction_11 rfl rfl ?_
      refine V_iconst (pc := 12) dX6_partOfFraction_12 ?_
      refine V_irem (pc := 13) dX6_partOfFraction_13 (by first | assumption | decide | (constructor <;> omega)) (by decide) ?_
      rw [irem_p hx (by decide)]
      refine V_if_ne (tgt := 30) (pc := 14) dX6_partOfFraction_14 (by decide) (by first | assumption | decide | (constructor <;> omega)) (fun h14 => ?_) (fun h14 => ?_)
      · skip
        rw [if_neg (show ¬ (1 < z ∧ x % 2 = 0) by omega)] at h
        refine V_iload_n (pc := 30) dX6_partOfFraction_30 rfl rfl ?_
        refine V_if_ne (tgt := 39) (pc := 31) dX6_partOfFraction_31 (by decide) (by first | assumption | decide | (constructor <;> omega)) (fun h31 => ?_) (fun h31 => ?_)
        · skip
          refine V_iload (pc := 39) dX6_partOfFraction_39 rfl ?_
          refine V_i2l (pc := 41) dX6_partOfFraction_41 (by first | assumption | decide | (constructor <;> omega)) ?_
          refine V_lreturn (pc := 42) dX6_partOfFraction_42 rfl (fun hR => ?_)
          first | (rw [if_pos (by assumption)] at h; exact h) | (rw [if_neg (by assumption)] at h; exact h)
        · skip
          refine V_iload_n (pc := 34) dX6_partOfFraction_34 rfl rfl ?_
          refine V_i2l (pc := 35) dX6_partOfFraction_35 (by first | assumption | decide | (constructor <;> omega)) ?_
          refine V_goto (tgt := 42) (pc := 36) dX6_partOfFraction_36 (by decide) ?_
          refine V_lreturn (pc := 42) dX6_partOfFraction_42 rfl (fun hR => ?_)
          first | (rw [if_pos (by assumption)] at h; exact h) | (rw [if_neg (by assumption)] at h; exact h)
      · skip
        rw [if_pos (show 1 < z ∧ x % 2 = 0 by omega)] at h
        refine V_iload_n (pc := 17) dX6_partOfFraction_17 rfl rfl ?_
        refine V_iconst (pc := 18) dX6_partOfFraction_18 ?_
        refine V_idiv (pc := 19) dX6_partOfFraction_19 (by first | assumption | decide | (constructor <;> omega)) (by decide) ?_
        rw [idiv_p hx (by decide)]
        refine V_istore_n (pc := 20) dX6_partOfFraction_20 rfl (by decide) rfl ?_
        show V_ _ _ _ _ _ [_, _, _, _, _] _ _
        refine V_iload (pc := 21) dX6_partOfFraction_21 rfl ?_
        refine V_iconst (pc := 23) dX6_partOfFraction_23 ?_
        refine V_idiv (pc := 24) dX6_partOfFraction_24 (by first | assumption | decide | (constructor <;> omega)) (by decide) ?_
        rw [idiv_p (by omega) (by decide)]
        refine V_istore (pc := 25) dX6_partOfFraction_25 (by decide) rfl ?_
        show V_ _ _ _ _ _ [_, _, _, _, _] _ _
        refine V_goto (tgt := 5) (pc := 27) dX6_partOfFraction_27 (by decide) ?_
        exact ih (by omega) _ _ (by omega) (by omega) h
theorem ct_X6_partOfFraction {x z w : Int} (hw : Rg_ w) (hx : 0 ≤ x ∧ x ≤ 2147483647) (hz : 1 ≤ z ∧ z ≤ 1073741824) (h : post (some (vl_ (pt2_ x z w))) σ) : V_ l D mX6_partOfFraction (CM_ D mX6_partOfFraction post) 0 [some (vi_ x), some (vi_ z), some (vi_ w), none, none] [] σ := by
  refine V_iload_n (pc := 0) dX6_partOfFraction_0 rfl rfl ?_
  refine V_istore_n (pc := 1) dX6_partOfFraction_1 rfl (by decide) rfl ?_
  show V_ _ _ _ _ _ [_, _, _, _, _] _ _
  refine V_iload_n (pc := 2) dX6_partOfFraction_2 rfl rfl ?_
  refine V_istore (pc := 3) dX6_partOfFraction_3 (by decide) rfl ?_
  show V_ _ _ _ _ _ [_, _, _, _, _] _ _
  exact lp_X6_partOfFraction hw 31 (by decide) _ _ hx ⟨hz.1, by have : ((2 ^ 31 : Nat) : Int) = 2147483648 := rfl; omega, by omega⟩ h
theorem lp_X6_fair {k w : Int} (hk : wN_ (vv_ a) k) (hw : 0 ≤ w ∧ w ≤ 1) (h : CR_ a σ) (hK : ∀ σ1, CR_ a σ1 → Fm_ σ σ1 → post (some (vl_ (an_fair a k w))) σ1) : ∀ i : Nat, i ≤ (vv_ a 0 0).toNat → V_ l D mX6_fair (CM_ D mX6_fair post) 28 [some (vr_ 0), some (vi_ k), some (vi_ w), some (vi_ (fr_ (vv_ a) k i)), some (vi_ (i : Int))] [] σ := by
  have hA := h.1.1
  have hW := vv_WF hA
  have hC := h.2.1
  have hD := h.2.2
  have ws := hW.s
  have wn := hW.n
  have wl := hW.l
  refine up_ _ (fun i hi ih => ?_)
  have hf := fr_rg hW (k := k) (n := i) (by omega)
  have e0 : fr_ (vv_ a) k (i + 1) = fr_ (vv_ a) k i + vv_ a 2 i * bo_ (vv_ a) (i : Int) k (vv_ a 7 0).toNat := rfl
  refine V_iload (pc := 28) dX6_fair_28 rfl ?_
  refine V_aload_n (pc := 30) dX6_fair_30 rfl rfl ?_
  refine V_getr (pc := 31) dX6_fair_31 fX6_53 rfl gg_0 rfl ?_
  refine V_geti (pc := 34) dX6_fair_34 fX6_200 rfl gg_19 rfl (fun r34 => ?_)
  rw [hC.1] at r34 ⊢
  refine V_icmp_ge (tgt := 70) (pc := 37) dX6_fair_37 (by decide) (by first | assumption | decide | (constructor <;> omega)) (by first | assumption | decide | (constructor <;> omega)) (fun h37 => ?_) (fun h37 => ?_)
  · skip
    refine V_iload_n (pc := 70) dX6_fair_70 rfl rfl ?_
    refine V_bipush (pc := 71) dX6_fair_71 (by decide) ?_
    refine V_iload_n (pc := 73) dX6_fair_73 rfl rfl ?_
    refine V_callS (pc := 74) (as := [_, _, _]) (rest := []) dX6_fair_74 ⟨kX6_237, sX6_partOfFraction, by decide, by decide⟩ rfl rfl (Nat.le_of_ble_eq_true rfl) (Nat.le_of_ble_eq_true rfl) ?_
    refine ct_X6_partOfFraction (by constructor <;> omega) (by omega) (by decide) ?_
    show V_ _ _ _ _ _ _ [_] _
    refine V_lreturn (pc := 77) dX6_fair_77 rfl (fun hR => ?_)
    exact rl_ (by unfold an_fair; rw [if_pos ⟨hk, hw⟩, show (vv_ a 0 0).toNat = i by omega]) (hK _ h Fm_.rf)
  · skip
    refine V_iload_n (pc := 40) dX6_fair_40 rfl rfl ?_
    refine V_aload_n (pc := 41) dX6_fair_41 rfl rfl ?_
    refine V_getr (pc := 42) dX6_fair_42 fX6_53 rfl gg_0 rfl ?_
    refine V_getr (pc := 45) dX6_fair_45 fX6_108 rfl gg_19 rfl ?_
    refine V_iload (pc := 48) dX6_fair_48 rfl ?_
    refine V_ialdN (pc := 50) dX6_fair_50 gg_21 (by omega) (by decide) (fun r50 => ?_)
    rw [(hC.si (k := i) (by omega)).2] at r50 ⊢
    refine V_aload_n (pc := 51) dX6_fair_51 rfl rfl ?_
    refine V_getr (pc := 52) dX6_fair_52 fX6_53 rfl gg_0 rfl ?_
    refine V_iload (pc := 55) dX6_fair_55 rfl ?_
    refine V_iload_n (pc := 57) dX6_fair_57 rfl rfl ?_
    refine V_callV (pc := 58) (as := [_, _]) (rest := [_, _]) dX6_fair_58 ⟨kX6_173, iX1_dueOf, by decide, by decide⟩ rc_19 rfl rfl (Nat.le_of_ble_eq_true rfl) (Nat.le_of_ble_eq_true rfl) ?_
    refine ct_X1_dueOf hW hC hD (by constructor <;> omega) (by constructor <;> omega) ?_
    show V_ _ _ _ _ _ _ [_, _, _] _
    refine V_imul (pc := 61) dX6_fair_61 ?_
    refine V_iadd (pc := 62) dX6_fair_62 ?_
    refine V_istore_n (pc := 63) dX6_fair_63 rfl (by decide) rfl ?_
    show V_ _ _ _ _ _ [_, _, _, _, _] _ _
    refine V_iinc (pc := 64) dX6_fair_64 rfl (by decide) rfl ?_
    show V_ _ _ _ _ _ [_, _, _, _, _] _ _
    refine V_goto (tgt := 28) (pc := 67) dX6_fair_67 (by decide) ?_
    exact V_cg (ih (by omega)) (by rw [e0]; simp) rfl rfl
theorem ct_X6_fair {k w : Int} (hk : Rg_ k) (hw : Rg_ w) (h : CR_ a σ) (hK : ∀ σ1, CR_ a σ1 → Fm_ σ σ1 → post (some (vl_ (an_fair a k w))) σ1) : V_ l D mX6_fair (CM_ D mX6_fair post) 0 [some (vr_ 0), some (vi_ k), some (vi_ w), none, none] [] σ := by
  have hA := h.1.1
  have hW := vv_WF hA
  have hC := h.2.1
  have hD := h.2.2
  have ws := hW.s
  have wn := hW.n
  have wl := hW.l
  refine V_aload_n (pc := 0) dX6_fair_0 rfl rfl ?_
  refine V_getr (pc := 1) dX6_fair_1 fX6_53 rfl gg_0 rfl ?_
  refine V_iload_n (pc := 4) dX6_fair_4 rfl rfl ?_
  refine V_callV (pc := 5) (as := [_]) (rest := []) dX6_fair_5 ⟨kX6_111, iX1_hasName, by decide, by decide⟩ rc_19 rfl rfl (Nat.le_of_ble_eq_true rfl) (Nat.le_of_ble_eq_true rfl) ?_
  refine ct_X1_hasName (by first | assumption | decide | omega | exact ba_rg hR | exact b2_rg) hC.2.1 ?_
  show V_ _ _ _ _ _ _ [_] _
  refine V_if_eq (tgt := 19) (pc := 8) dX6_fair_8 (by decide) (by first | assumption | decide | omega | exact ba_rg hR | exact b2_rg) (fun h8 => ?_) (fun h8 => ?_)
  · skip
    rw [b2_0] at h8
    refine V_ldc2 (v := (-9223372036854775806)) (z := -9223372036854775806) (pc := 19) dX6_fair_19 (tb_in 619 (by decide +kernel) rfl) (by decide +kernel) ?_
    refine V_lreturn (pc := 22) dX6_fair_22 rfl (fun hR => ?_)
    exact rl_ (by unfold an_fair; first | rfl | ((repeat' split) <;> first | rfl | (exfalso; omega))) (hK σ h (Fm_.rf))
  · skip
    rw [b2_n0] at h8
    refine V_iload_n (pc := 11) dX6_fair_11 rfl rfl ?_
    refine V_iconst (pc := 12) dX6_fair_12 ?_
    refine V_callS (pc := 13) (as := [_, _]) (rest := []) dX6_fair_13 ⟨kX6_78, sX6_isWithin, by decide, by decide⟩ rfl rfl (Nat.le_of_ble_eq_true rfl) (Nat.le_of_ble_eq_true rfl) ?_
    refine ct_X6_isWithin (by first | assumption | decide | omega | exact ba_rg hR | exact b2_rg) (by first | assumption | decide | omega | exact ba_rg hR | exact b2_rg) ?_
    show V_ _ _ _ _ _ _ [_] _
    refine V_if_ne (tgt := 23) (pc := 16) dX6_fair_16 (by decide) (by first | assumption | decide | omega | exact ba_rg hR | exact b2_rg) (fun h16 => ?_) (fun h16 => ?_)
    · skip
      rw [b2_n0] at h16
      refine V_iconst (pc := 23) dX6_fair_23 ?_
      refine V_istore_n (pc := 24) dX6_fair_24 rfl (by decide) rfl ?_
      show V_ _ _ _ _ _ [_, _, _, _, _] _ _
      refine V_iconst (pc := 25) dX6_fair_25 ?_
      refine V_istore (pc := 26) dX6_fair_26 (by decide) rfl ?_
      show V_ _ _ _ _ _ [_, _, _, _, _] _ _
      exact V_cg (lp_X6_fair h8 h16 h hK 0 (Nat.zero_le _)) (by simp [fr_, sm_]) rfl rfl
    · skip
      rw [b2_0] at h16
      refine V_ldc2 (v := (-9223372036854775806)) (z := -9223372036854775806) (pc := 19) dX6_fair_19 (tb_in 619 (by decide +kernel) rfl) (by decide +kernel) ?_
      refine V_lreturn (pc := 22) dX6_fair_22 rfl (fun hR => ?_)
      exact rl_ (by unfold an_fair; first | rfl | ((repeat' split) <;> first | rfl | (exfalso; omega))) (hK σ h (Fm_.rf))
theorem sn_pos {v : Mm_} (hW : WF_ v) {k : Nat} {m : Int} {n : Nat} : ch_ v 0 (v 0 0).toNat ≤ (sn_ v k m (n + 1)).2 := by
  induction n with
  | zero => show _ ≤ 0 + ch_ v ((0 : Nat) : Int) (v 0 0).toNat; simp
  | succ n ih =>
    have hc := ch_b hW (set := ((n + 1 : Nat) : Int))
    show _ ≤ (sn_ v k m (n + 1)).2 + ch_ v ((n + 1 : Nat) : Int) (v 0 0).toNat
    omega
theorem ch_0 {v : Mm_} (hW : WF_ v) : ∀ {n : Nat}, (n : Int) ≤ v 0 0 → 1 ≤ ch_ v 0 n := by
  intro n
  induction n with
  | zero => intro _; simp [ch_]
  | succ n ih =>
    intro hn
    have h1 := ih (by omega)
    have h2 := hW.si (k := n) (by omega)
    unfold ch_
    rw [if_neg (by simp [bt_])]
    have := Int.mul_le_mul h1 (show 1 ≤ 16 - v 2 n by omega) (by decide) (by omega)
    omega
theorem sn_b {v : Mm_} (hW : WF_ v) {k : Nat} {m : Int} : 1 ≤ (sn_ v k m (ss_ v)).2 ∧ (sn_ v k m (ss_ v)).2 ≤ 1073741824 := by
  have ws := hW.s
  have hss := ss_rg hW
  have h1 := sn_rg hW (k := k) (m := m) (n := ss_ v)
  have h2 := ch_0 hW (n := (v 0 0).toNat) (by omega)
  obtain ⟨q, hq⟩ : ∃ q, ss_ v = q + 1 := ⟨ss_ v - 1, by omega⟩
  have h3 := sn_pos hW (k := k) (m := m) (n := q)
  rw [← hq] at h3
  omega
theorem lp_X6_storm {k m w : Int} (hk : wN_ (vv_ a) k) (hm : 0 ≤ m ∧ m ≤ 99) (hw : 0 ≤ w ∧ w ≤ 1) (h : CR_ a σ) (hK : ∀ σ1, CR_ a σ1 → Fm_ σ σ1 → post (some (vl_ (an_storm a k m w))) σ1) : ∀ i : Nat, i ≤ ss_ (vv_ a) → ∀ τ, F3_ σ τ → V_ l D mX6_storm (CM_ D mX6_storm post) 41 [some (vr_ 0), some (vi_ k), some (vi_ m), some (vi_ w), some (vi_ (sn_ (vv_ a) k.toNat m i).1), some (vi_ (sn_ (vv_ a) k.toNat m i).2), some (vi_ (i : Int)), none] [] τ := by
  have hW := vv_WF h.1.1
  have ws := hW.s
  have wn := hW.n
  have hss := ss_rg hW
  refine up_ _ (fun i hi ih τ hF => ?_)
  have hc := h.f6 hF.f6
  have hC := hc.2.1
  have hD := hc.2.2
  have hs := sn_rg hW (k := k.toNat) (m := m) (n := i)
  have hcb := ch_b hW (set := (i : Int))
  refine V_iload (pc := 41) dX6_storm_41 rfl ?_
  refine V_iconst (pc := 43) dX6_storm_43 ?_
  refine V_aload_n (pc := 44) dX6_storm_44 rfl rfl ?_
  refine V_getr (pc := 45) dX6_storm_45 fX6_53 rfl gg_0 rfl ?_
  refine V_geti (pc := 48) dX6_storm_48 fX6_200 rfl gg_19 rfl (fun r48 => ?_)
  rw [hC.1] at r48 ⊢
  refine V_ishl (pc := 51) dX6_storm_51 ?_
  rw [ss_sh hW]
  refine V_icmp_ge (tgt := 117) (pc := 52) dX6_storm_52 (by decide) (by first | assumption | decide | (constructor <;> omega)) (by first | assumption | decide | (constructor <;> omega)) (fun h52 => ?_) (fun h52 => ?_)
  · skip
    refine V_iload (pc := 117) dX6_storm_117 rfl ?_
    refine V_iload (pc := 119) dX6_storm_119 rfl ?_
    refine V_iload_n (pc := 121) dX6_storm_121 rfl rfl ?_
    refine V_callS (pc := 122) (as := [_, _, _]) (rest := []) dX6_storm_122 ⟨kX6_237, sX6_partOfFraction, by decide, by decide⟩ rfl rfl (Nat.le_of_ble_eq_true rfl) (Nat.le_of_ble_eq_true rfl) ?_
    refine ct_X6_partOfFraction (by constructor <;> omega) (by omega) (by have hb := sn_b hW (k := k.toNat) (m := m); rw [show i = ss_ (vv_ a) by omega]; omega) ?_
    show V_ _ _ _ _ _ _ [_] _
    refine V_lreturn (pc := 125) dX6_storm_125 rfl (fun hR => ?_)
    exact rl_ (by unfold an_storm; rw [if_pos ⟨hk, hm, hw⟩, show ss_ (vv_ a) = i by omega]) (hK _ hc hF.f6.fm)
  · skip
    refine V_aload_n (pc := 55) dX6_storm_55 rfl rfl ?_
    refine V_getr (pc := 56) dX6_storm_56 fX6_53 rfl gg_0 rfl ?_
    refine V_iload (pc := 59) dX6_storm_59 rfl ?_
    refine V_callV (pc := 61) (as := [_]) (rest := []) dX6_storm_61 ⟨kX6_241, iX1_chancesOf, by decide, by decide⟩ rc_19 rfl rfl (Nat.le_of_ble_eq_true rfl) (Nat.le_of_ble_eq_true rfl) ?_
    refine ct_X1_chancesOf hW hC (by omega) ?_
    show V_ _ _ _ _ _ _ [_] _
    refine V_istore (pc := 64) dX6_storm_64 (by decide) rfl ?_
    show V_ _ _ _ _ _ [_, _, _, _, _, _, _, _] _ _
    refine V_iload (pc := 66) dX6_storm_66 rfl ?_
    refine V_iload (pc := 68) dX6_storm_68 rfl ?_
    refine V_iadd (pc := 70) dX6_storm_70 ?_
    refine V_istore (pc := 71) dX6_storm_71 (by decide) rfl ?_
    show V_ _ _ _ _ _ [_, _, _, _, _, _, _, _] _ _
    refine V_iload (pc := 73) dX6_storm_73 rfl ?_
    refine V_if_le (tgt := 111) (pc := 75) dX6_storm_75 (by decide) (by first | assumption | decide | (constructor <;> omega)) (fun h75 => ?_) (fun h75 => ?_)
    · skip
      have e0 : sn_ (vv_ a) k.toNat m (i + 1) = ((sn_ (vv_ a) k.toNat m i).1, (sn_ (vv_ a) k.toNat m i).2 + ch_ (vv_ a) (i : Int) (vv_ a 0 0).toNat) := by show (_ + (if _ then _ else _), _) = _; rw [show ch_ (vv_ a) (i : Int) (vv_ a 0 0).toNat = 0 by omega]; simp
      refine V_iinc (pc := 111) dX6_storm_111 rfl (by decide) rfl ?_
      show V_ _ _ _ _ _ [_, _, _, _, _, _, _, _] _ _
      refine V_goto (tgt := 41) (pc := 114) dX6_storm_114 (by decide) ?_
      refine V_none (k := 7) ?_
      show V_ _ _ _ _ _ [_, _, _, _, _, _, _, _] _ _
      first | exact V_cg (ih (by omega) _ (hF.tr hB2)) (by rw [e0]; simp) rfl rfl | exact V_cg (ih (by omega) _ hF) (by rw [e0]; simp) rfl rfl
    · skip
      refine V_aload_n (pc := 78) dX6_storm_78 rfl rfl ?_
      refine V_getr (pc := 79) dX6_storm_79 fX6_57 rfl gg_0 rfl ?_
      refine V_iload (pc := 82) dX6_storm_82 rfl ?_
      refine V_callV (pc := 84) (as := [_]) (rest := []) dX6_storm_84 ⟨kX6_244, iX3_loseTogether, by decide, by decide⟩ rc_29 rfl rfl (Nat.le_of_ble_eq_true rfl) (Nat.le_of_ble_eq_true rfl) ?_
      refine ct_X3_loseTogether hW (by omega) hC hD (fun σ1 hB1 hB2 => ?_)
      show V_ _ _ _ _ _ _ [] _
      refine V_iload (pc := 87) dX6_storm_87 rfl ?_
      refine V_aload_n (pc := 89) dX6_storm_89 rfl rfl ?_
      refine V_getr (pc := 90) dX6_storm_90 fX6_57 rfl gg_0 rfl ?_
      refine V_getr (pc := 93) dX6_storm_93 fX6_183 rfl gg_29 rfl ?_
      refine V_iload_n (pc := 96) dX6_storm_96 rfl rfl ?_
      refine V_iald (pc := 97) dX6_storm_97 gg_30 (by omega) (by decide) (fun r97 => ?_)
      rw [hB1.1 k.toNat (by omega)] at r97 ⊢
      have hlr := (to_RW hW (set := (i : Int)) (vv_ a 0 0).toNat).1 k.toNat (by omega)
      refine V_iload_n (pc := 98) dX6_storm_98 rfl rfl ?_
      refine V_icmp_lt (tgt := 107) (pc := 99) dX6_storm_99 (by decide) (by first | assumption | decide | (constructor <;> omega)) (by first | assumption | decide | (constructor <;> omega)) (fun h99 => ?_) (fun h99 => ?_)
      · skip
        have e0 : sn_ (vv_ a) k.toNat m (i + 1) = ((sn_ (vv_ a) k.toNat m i).1 + 0, (sn_ (vv_ a) k.toNat m i).2 + ch_ (vv_ a) (i : Int) (vv_ a 0 0).toNat) := by show (_ + (if _ then _ else _), _) = _; rw [if_neg (by omega)]
        refine V_iconst (pc := 107) dX6_storm_107 ?_
        refine V_iadd (pc := 108) dX6_storm_108 ?_
        refine V_istore (pc := 109) dX6_storm_109 (by decide) rfl ?_
        show V_ _ _ _ _ _ [_, _, _, _, _, _, _, _] _ _
        refine V_iinc (pc := 111) dX6_storm_111 rfl (by decide) rfl ?_
        show V_ _ _ _ _ _ [_, _, _, _, _, _, _, _] _ _
        refine V_goto (tgt := 41) (pc := 114) dX6_storm_114 (by decide) ?_
        refine V_none (k := 7) ?_
        show V_ _ _ _ _ _ [_, _, _, _, _, _, _, _] _ _
        first | exact V_cg (ih (by omega) _ (hF.tr hB2)) (by rw [e0]; simp) rfl rfl | exact V_cg (ih (by omega) _ hF) (by rw [e0]; simp) rfl rfl
      · skip
        have e0 : sn_ (vv_ a) k.toNat m (i + 1) = ((sn_ (vv_ a) k.toNat m i).1 + ch_ (vv_ a) (i : Int) (vv_ a 0 0).toNat, (sn_ (vv_ a) k.toNat m i).2 + ch_ (vv_ a) (i : Int) (vv_ a 0 0).toNat) := by show (_ + (if _ then _ else _), _) = _; rw [if_pos (by omega)]
        refine V_iload (pc := 102) dX6_storm_102 rfl ?_
        refine V_goto (tgt := 108) (pc := 104) dX6_storm_104 (by decide) ?_
        refine V_iadd (pc := 108) dX6_storm_108 ?_
        refine V_istore (pc := 109) dX6_storm_109 (by decide) rfl ?_
        show V_ _ _ _ _ _ [_, _, _, _, _, _, _, _] _ _
        refine V_iinc (pc := 111) dX6_storm_111 rfl (by decide) rfl ?_
        show V_ _ _ _ _ _ [_, _, _, _, _, _, _, _] _ _
        refine V_goto (tgt := 41) (pc := 114) dX6_storm_114 (by decide) ?_
        refine V_none (k := 7) ?_
        show V_ _ _ _ _ _ [_, _, _, _, _, _, _, _] _ _
        first | exact V_cg (ih (by omega) _ (hF.tr hB2)) (by rw [e0]; simp) rfl rfl | exact V_cg (ih (by omega) _ hF) (by rw [e0]; simp) rfl rfl
theorem ct_X6_storm {k m w : Int} (hk : Rg_ k) (hm : Rg_ m) (hw : Rg_ w) (h : CR_ a σ) (hK : ∀ σ1, CR_ a σ1 → Fm_ σ σ1 → post (some (vl_ (an_storm a k m w))) σ1) : V_ l D mX6_storm (CM_ D mX6_storm post) 0 [some (vr_ 0), some (vi_ k), some (vi_ m), some (vi_ w), none, none, none, none] [] σ := by
  have hA := h.1.1
  have hW := vv_WF hA
  have hC := h.2.1
  have hD := h.2.2
  have ws := hW.s
  have wn := hW.n
  have wl := hW.l
  refine V_aload_n (pc := 0) dX6_storm_0 rfl rfl ?_
  refine V_getr (pc := 1) dX6_storm_1 fX6_53 rfl gg_0 rfl ?_
  refine V_iload_n (pc := 4) dX6_storm_4 rfl rfl ?_
  refine V_callV (pc := 5) (as := [_]) (rest := []) dX6_storm_5 ⟨kX6_111, iX1_hasName, by decide, by decide⟩ rc_19 rfl rfl (Nat.le_of_ble_eq_true rfl) (Nat.le_of_ble_eq_true rfl) ?_
  refine ct_X1_hasName (by first | assumption | decide | omega | exact ba_rg hR | exact b2_rg) hC.2.1 ?_
  show V_ _ _ _ _ _ _ [_] _
  refine V_if_eq (tgt := 28) (pc := 8) dX6_storm_8 (by decide) (by first | assumption | decide | omega | exact ba_rg hR | exact b2_rg) (fun h8 => ?_) (fun h8 => ?_)
  · skip
    rw [b2_0] at h8
    refine V_ldc2 (v := (-9223372036854775806)) (z := -9223372036854775806) (pc := 28) dX6_storm_28 (tb_in 619 (by decide +kernel) rfl) (by decide +kernel) ?_
    refine V_lreturn (pc := 31) dX6_storm_31 rfl (fun hR => ?_)
    exact rl_ (by unfold an_storm; first | rfl | ((repeat' split) <;> first | rfl | (exfalso; omega))) (hK σ h (Fm_.rf))
  · skip
    rw [b2_n0] at h8
    refine V_iload_n (pc := 11) dX6_storm_11 rfl rfl ?_
    refine V_bipush (pc := 12) dX6_storm_12 (by decide) ?_
    refine V_callS (pc := 14) (as := [_, _]) (rest := []) dX6_storm_14 ⟨kX6_78, sX6_isWithin, by decide, by decide⟩ rfl rfl (Nat.le_of_ble_eq_true rfl) (Nat.le_of_ble_eq_true rfl) ?_
    refine ct_X6_isWithin (by first | assumption | decide | omega | exact ba_rg hR | exact b2_rg) (by first | assumption | decide | omega | exact ba_rg hR | exact b2_rg) ?_
    show V_ _ _ _ _ _ _ [_] _
    refine V_if_eq (tgt := 28) (pc := 17) dX6_storm_17 (by decide) (by first | assumption | decide | omega | exact ba_rg hR | exact b2_rg) (fun h17 => ?_) (fun h17 => ?_)
    · skip
      rw [b2_0] at h17
      refine V_ldc2 (v := (-9223372036854775806)) (z := -9223372036854775806) (pc := 28) dX6_storm_28 (tb_in 619 (by decide +kernel) rfl) (by decide +kernel) ?_
      refine V_lreturn (pc := 31) dX6_storm_31 rfl (fun hR => ?_)
      exact rl_ (by unfold an_storm; first | rfl | ((repeat' split) <;> first | rfl | (exfalso; omega))) (hK σ h (Fm_.rf))
    · skip
      rw [b2_n0] at h17
      refine V_iload_n (pc := 20) dX6_storm_20 rfl rfl ?_
      refine V_iconst (pc := 21) dX6_storm_21 ?_
      refine V_callS (pc := 22) (as := [_, _]) (rest := []) dX6_storm_22 ⟨kX6_78, sX6_isWithin, by decide, by decide⟩ rfl rfl (Nat.le_of_ble_eq_true rfl) (Nat.le_of_ble_eq_true rfl) ?_
      refine ct_X6_isWithin (by first | assumption | decide | omega | exact ba_rg hR | exact b2_rg) (by first | assumption | decide | omega | exact ba_rg hR | exact b2_rg) ?_
      show V_ _ _ _ _ _ _ [_] _
      refine V_if_ne (tgt := 32) (pc := 25) dX6_storm_25 (by decide) (by first | assumption | decide | omega | exact ba_rg hR | exact b2_rg) (fun h25 => ?_) (fun h25 => ?_)
      · skip
        rw [b2_n0] at h25
        refine V_iconst (pc := 32) dX6_storm_32 ?_
        refine V_istore (pc := 33) dX6_storm_33 (by decide) rfl ?_
        show V_ _ _ _ _ _ [_, _, _, _, _, _, _, _] _ _
        refine V_iconst (pc := 35) dX6_storm_35 ?_
        refine V_istore (pc := 36) dX6_storm_36 (by decide) rfl ?_
        show V_ _ _ _ _ _ [_, _, _, _, _, _, _, _] _ _
        refine V_iconst (pc := 38) dX6_storm_38 ?_
        refine V_istore (pc := 39) dX6_storm_39 (by decide) rfl ?_
        show V_ _ _ _ _ _ [_, _, _, _, _, _, _, _] _ _
        exact V_cg (lp_X6_storm h8 h17 h25 h hK 0 (Nat.zero_le _) _ F3_.rf) (by simp [sn_]) rfl rfl
      · skip
        rw [b2_0] at h25
        refine V_ldc2 (v := (-9223372036854775806)) (z := -9223372036854775806) (pc := 28) dX6_storm_28 (tb_in 619 (by decide +kernel) rfl) (by decide +kernel) ?_
        refine V_lreturn (pc := 31) dX6_storm_31 rfl (fun hR => ?_)
        exact rl_ (by unfold an_storm; first | rfl | ((repeat' split) <;> first | rfl | (exfalso; omega))) (hK σ h (Fm_.rf))
theorem ct_X6_years {sd n k w : Int} (hn : Rg_ n) (hk : Rg_ k) (hw : Rg_ w) (h : CR_ a σ) (hK : ∀ σ1, CR_ a σ1 → Fm_ σ σ1 → post (some (vi_ (an_years a sd n k w))) σ1) : V_ l D mX6_years (CM_ D mX6_years post) 0 [some (vr_ 0), some (vi_ sd), some (vi_ n), some (vi_ k), some (vi_ w)] [] σ := by
  have hA := h.1.1
  have hW := vv_WF hA
  have hC := h.2.1
  have hD := h.2.2
  have ws := hW.s
  have wn := hW.n
  have wl := hW.l
  refine V_iload_n (pc := 0) dX6_years_0 rfl rfl ?_
  refine V_iconst (pc := 1) dX6_years_1 ?_
  refine V_icmp_lt (tgt := 31) (pc := 2) dX6_years_2 (by decide) (by first | assumption | decide | omega | exact ba_rg hR | exact b2_rg) (by first | assumption | decide | omega | exact ba_rg hR | exact b2_rg) (fun h2 => ?_) (fun h2 => ?_)
  · skip
    refine V_bipush (pc := 31) dX6_years_31 (by decide) ?_
    refine V_ireturn (pc := 33) dX6_years_33 rfl rfl (fun hR => ?_)
    exact rt_ (by unfold an_years; first | rfl | ((repeat' split) <;> first | rfl | (exfalso; omega))) (hK σ h (Fm_.rf))
  · skip
    refine V_iload_n (pc := 5) dX6_years_5 rfl rfl ?_
    refine V_bipush (pc := 6) dX6_years_6 (by decide) ?_
    refine V_icmp_gt (tgt := 31) (pc := 8) dX6_years_8 (by decide) (by first | assumption | decide | omega | exact ba_rg hR | exact b2_rg) (by first | assumption | decide | omega | exact ba_rg hR | exact b2_rg) (fun h8 => ?_) (fun h8 => ?_)
    · skip
      refine V_bipush (pc := 31) dX6_years_31 (by decide) ?_
      refine V_ireturn (pc := 33) dX6_years_33 rfl rfl (fun hR => ?_)
      exact rt_ (by unfold an_years; first | rfl | ((repeat' split) <;> first | rfl | (exfalso; omega))) (hK σ h (Fm_.rf))
    · skip
      refine V_aload_n (pc := 11) dX6_years_11 rfl rfl ?_
      refine V_getr (pc := 12) dX6_years_12 fX6_53 rfl gg_0 rfl ?_
      refine V_iload_n (pc := 15) dX6_years_15 rfl rfl ?_
      refine V_callV (pc := 16) (as := [_]) (rest := []) dX6_years_16 ⟨kX6_111, iX1_hasName, by decide, by decide⟩ rc_19 rfl rfl (Nat.le_of_ble_eq_true rfl) (Nat.le_of_ble_eq_true rfl) ?_
      refine ct_X1_hasName (by first | assumption | decide | omega | exact ba_rg hR | exact b2_rg) hC.2.1 ?_
      show V_ _ _ _ _ _ _ [_] _
      refine V_if_eq (tgt := 31) (pc := 19) dX6_years_19 (by decide) (by first | assumption | decide | omega | exact ba_rg hR | exact b2_rg) (fun h19 => ?_) (fun h19 => ?_)
      · skip
        rw [b2_0] at h19
        refine V_bipush (pc := 31) dX6_years_31 (by decide) ?_
        refine V_ireturn (pc := 33) dX6_years_33 rfl rfl (fun hR => ?_)
        exact rt_ (by unfold an_years; first | rfl | ((repeat' split) <;> first | rfl | (exfalso; omega))) (hK σ h (Fm_.rf))
      · skip
        rw [b2_n0] at h19
        refine V_iload (pc := 22) dX6_years_22 rfl ?_
        refine V_iconst (pc := 24) dX6_years_24 ?_
        refine V_callS (pc := 25) (as := [_, _]) (rest := []) dX6_years_25 ⟨kX6_78, sX6_isWithin, by decide, by decide⟩ rfl rfl (Nat.le_of_ble_eq_true rfl) (Nat.le_of_ble_eq_true rfl) ?_
        refine ct_X6_isWithin (by first | assumption | decide | omega | exact ba_rg hR | exact b2_rg) (by first | assumption | decide | omega | exact ba_rg hR | exact b2_rg) ?_
        show V_ _ _ _ _ _ _ [_] _
        refine V_if_ne (tgt := 34) (pc := 28) dX6_years_28 (by decide) (by first | assumption | decide | omega | exact ba_rg hR | exact b2_rg) (fun h28 => ?_) (fun h28 => ?_)
        · skip
          rw [b2_n0] at h28
          refine V_aload_n (pc := 34) dX6_years_34 rfl rfl ?_
          refine V_getr (pc := 35) dX6_years_35 fX6_57 rfl gg_0 rfl ?_
          refine V_iload_n (pc := 38) dX6_years_38 rfl rfl ?_
          refine V_iload_n (pc := 39) dX6_years_39 rfl rfl ?_
          refine V_callV (pc := 40) (as := [_, _]) (rest := []) dX6_years_40 ⟨kX6_247, iX3_followLots, by decide, by decide⟩ rc_29 rfl rfl (Nat.le_of_ble_eq_true rfl) (Nat.le_of_ble_eq_true rfl) ?_
          obtain ⟨N, hN⟩ := i_nat (show 0 ≤ n by omega)
          subst hN
          refine ct_X3_followLots hW (by omega) hC hD (fun σ1 hB1 hB2 => ?_)
          have hRw := lo_RW hW (seed := sd) N (by omega)
          have hc1 := h.f6 hB2.f6
          have hf1 := hB2.f6.fm
          show V_ _ _ _ _ _ _ [] _
          refine V_iload (pc := 43) dX6_years_43 rfl ?_
          refine V_if_ne (tgt := 60) (pc := 45) dX6_years_45 (by decide) (by first | assumption | decide | omega | exact ba_rg hR | exact b2_rg) (fun h45 => ?_) (fun h45 => ?_)
          · skip
            refine V_aload_n (pc := 60) dX6_years_60 rfl rfl ?_
            refine V_getr (pc := 61) dX6_years_61 fX6_57 rfl gg_0 rfl ?_
            refine V_geti (pc := 64) dX6_years_64 fX6_189 rfl gg_29 rfl (fun r64 => ?_)
            rw [hB1.2.2.1] at r64 ⊢
            refine V_callS (pc := 67) (as := [_]) (rest := []) dX6_years_67 ⟨kX6_212, sJ6_bitCount_0f7a4, by decide, by decide⟩ rfl rfl (Nat.le_of_ble_eq_true rfl) (Nat.le_of_ble_eq_true rfl) ?_
            refine ct_J6_bitCount_0f7a4 (by have := hRw.2.2.1; omega) ?_
            show V_ _ _ _ _ _ _ [_] _
            refine V_ireturn (pc := 70) dX6_years_70 rfl rfl (fun hR => ?_)
            exact rt_ (by unfold an_years; first | rfl | ((repeat' split) <;> first | rfl | (exfalso; omega))) (hK _ hc1 (hf1))
          · skip
            refine V_aload_n (pc := 48) dX6_years_48 rfl rfl ?_
            refine V_getr (pc := 49) dX6_years_49 fX6_57 rfl gg_0 rfl ?_
            refine V_getr (pc := 52) dX6_years_52 fX6_183 rfl gg_29 rfl ?_
            refine V_iload_n (pc := 55) dX6_years_55 rfl rfl ?_
            refine V_iald (pc := 56) dX6_years_56 gg_30 (by omega) (by decide) (fun r56 => ?_)
            rw [hB1.1 k.toNat (by omega)] at r56 ⊢
            refine V_goto (tgt := 70) (pc := 57) dX6_years_57 (by decide) ?_
            refine V_ireturn (pc := 70) dX6_years_70 rfl rfl (fun hR => ?_)
            exact rt_ (by unfold an_years; first | rfl | ((repeat' split) <;> first | rfl | (exfalso; omega))) (hK _ hc1 (hf1))
        · skip
          rw [b2_0] at h28
          refine V_bipush (pc := 31) dX6_years_31 (by decide) ?_
          refine V_ireturn (pc := 33) dX6_years_33 rfl rfl (fun hR => ?_)
          exact rt_ (by unfold an_years; first | rfl | ((repeat' split) <;> first | rfl | (exfalso; omega))) (hK σ h (Fm_.rf))
end
