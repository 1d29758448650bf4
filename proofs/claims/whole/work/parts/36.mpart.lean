/-! ## class DrownedNamesModel: parts, premiums, storms -/
theorem bm6 {z : Int} (h : 0 ≤ z ∧ z < 4611686018427387904) : z.bmod (2 ^ 64) = z := Int.bmod_eq_of_le (by omega) (by omega)
theorem ldiv_n {a b : Nat} (ha : a < 4611686018427387904) (hb : b < 4611686018427387904) : ldiv_ (a : Int) (b : Int) = ((a / b : Nat) : Int) := by
  unfold ldiv_
  have h := Nat.div_le_self a b
  rw [Int64.toInt_div, i6_to ⟨by omega, by omega⟩, i6_to ⟨by omega, by omega⟩, ← Int.ofNat_tdiv]
  generalize a / b = q at h ⊢
  exact bm6 ⟨by omega, by omega⟩
theorem lrem_n {a b : Nat} (ha : a < 4611686018427387904) (hb : b < 4611686018427387904) : lrem_ (a : Int) (b : Int) = ((a % b : Nat) : Int) := by
  unfold lrem_
  have h := Nat.div_le_self a b
  have h1 := Nat.div_mul_le_self a b
  have h2 := Nat.mod_add_div' a b
  have e : (Int64.ofInt (a : Int) / Int64.ofInt (b : Int)).toInt = ((a / b : Nat) : Int) := ldiv_n ha hb
  have h3 : ((a / b : Nat) : Int) * (b : Int) = ((a / b * b : Nat) : Int) := by rw [Int.natCast_mul]
  rw [Int64.toInt_sub, Int64.toInt_mul, e, i6_to ⟨by omega, by omega⟩, i6_to ⟨by omega, by omega⟩, h3, bm6 (z := ((a / b * b : Nat) : Int)) ⟨by omega, by omega⟩, bm6 ⟨by omega, by omega⟩]
  omega
theorem ph_g : ∀ n m x : Nat, m ≤ n → ph_ n (x : Int) ((2 ^ m : Nat) : Int) = (((x / Nat.gcd x (2 ^ m) : Nat) : Int), ((2 ^ m / Nat.gcd x (2 ^ m) : Nat) : Int)) := by
  intro n
  induction n with
  | zero =>
    intro m x h
    rw [show m = 0 by omega]
    simp [ph_]
  | succ n ih =>
    intro m x h
    unfold ph_
    split
    · rename_i c
      match m with
      | 0 => simp at c
      | m + 1 =>
        have hx : x = 2 * (x / 2) := by omega
        have hz : 2 ^ (m + 1) = 2 * 2 ^ m := by rw [Nat.pow_succ, Nat.mul_comm]
        have e := ih m (x / 2) (by omega)
        have hc : ((2 ^ (m + 1) : Nat) : Int) / 2 = ((2 ^ m : Nat) : Int) := by rw [hz]; omega
        rw [hc, show (x : Int) / 2 = ((x / 2 : Nat) : Int) by omega, e]
        have hg : Nat.gcd x (2 ^ (m + 1)) = 2 * Nat.gcd (x / 2) (2 ^ m) := by
          have : Nat.gcd (2 * (x / 2)) (2 * 2 ^ m) = 2 * Nat.gcd (x / 2) (2 ^ m) := Nat.gcd_mul_left 2 _ _
          rw [← hx, ← hz] at this
          exact this
        rw [hg]
        have h1 : x / (2 * Nat.gcd (x / 2) (2 ^ m)) = (x / 2) / Nat.gcd (x / 2) (2 ^ m) := by rw [← Nat.div_div_eq_div_mul]
        have h2 : 2 ^ (m + 1) / (2 * Nat.gcd (x / 2) (2 ^ m)) = 2 ^ m / Nat.gcd (x / 2) (2 ^ m) := by rw [hz, Nat.mul_div_mul_left _ _ (by decide)]
        rw [h1, h2]
    · rename_i c
      have hg : Nat.gcd x (2 ^ m) = 1 := by
        by_cases hm : m = 0
        · subst hm; simp
        · have h2 : 2 ≤ 2 ^ m := by
            have := Nat.pow_le_pow_right (show 0 < 2 by decide) (show 1 ≤ m by omega)
            simpa using this
          have hx : x % 2 = 1 := by omega
          refine Nat.Coprime.pow_right m ?_
          show Nat.gcd x 2 = 1
          rw [Nat.gcd_comm, Nat.gcd_rec, hx]; rfl
      rw [hg]; simp
theorem pt_g {x m : Nat} (hm : m ≤ 31) {w : Int} : pt2_ (x : Int) ((2 ^ m : Nat) : Int) w = if w = 0 then ((x / Nat.gcd x (2 ^ m) : Nat) : Int) else ((2 ^ m / Nat.gcd x (2 ^ m) : Nat) : Int) := by
  unfold pt2_
  rw [ph_g 31 m x hm]
section
variable {l : Launch} {D : Dt_} {a v w u σ r : Mm_} {post : Option Av_ → Mm_ → Prop}
theorem lp_X7_part {x z : Nat} (hx : x < 4611686018427387904) (hz : z < 4611686018427387904) {w : Int} (hw : Rg_ w) (hp : 0 < Nat.gcd x z) (h : post (some (vl_ (if w = 0 then ((x / Nat.gcd x z : Nat) : Int) else ((z / Nat.gcd x z : Nat) : Int)))) σ) : ∀ q p : Nat, p < 4611686018427387904 → q < 4611686018427387904 → Nat.gcd p q = Nat.gcd x z → V_ l D mX7_part (CM_ D mX7_part post) 6 [some (vl_ (x : Int)), none, some (vl_ (z : Int)), none, some (vi_ w), some (vl_ (p : Int)), none, some (vl_ (q : Int)), none, none, none] [] σ := by
  intro q
  refine Nat.strongRecOn q (fun q ih p hp2 hq hg => ?_)
  refine V_lload (pc := 6) dX7_part_6 rfl ?_
  refine V_lconst (z := 0) (pc := 8) dX7_part_8 rfl ?_
  refine V_lcmp (pc := 9) dX7_part_9 (by first | assumption | exact lcmp_rg | (constructor <;> omega)) (by first | assumption | exact lcmp_rg | (constructor <;> omega)) ?_
  refine V_if_eq (tgt := 31) (pc := 10) dX7_part_10 (by decide) (by first | assumption | exact lcmp_rg | (constructor <;> omega)) (fun h10 => ?_) (fun h10 => ?_)
  · skip
    rw [lcmp_0] at h10
    have hq0 : q = 0 := by omega
    subst hq0
    rw [Nat.gcd_zero_right] at hg
    subst hg
    refine V_iload (pc := 31) dX7_part_31 rfl ?_
    refine V_if_ne (tgt := 40) (pc := 33) dX7_part_33 (by decide) (by first | assumption | exact lcmp_rg | (constructor <;> omega)) (fun h33 => ?_) (fun h33 => ?_)
    · skip
      refine V_lload_n (pc := 40) dX7_part_40 rfl rfl ?_
      refine V_lload (pc := 41) dX7_part_41 rfl ?_
      refine V_ldiv (pc := 43) dX7_part_43 (by first | assumption | exact lcmp_rg | (constructor <;> omega)) (by omega) ?_
      first | rw [ldiv_n hx (by omega)] | rw [ldiv_n hz (by omega)]
      refine V_lreturn (pc := 44) dX7_part_44 rfl (fun hR => ?_)
      first | (rw [if_pos (by assumption)] at h; exact h) | (rw [if_neg (by assumption)] at h; exact h)
    · skip
      refine V_lload_n (pc := 36) dX7_part_36 rfl rfl ?_
      refine V_goto (tgt := 41) (pc := 37) dX7_part_37 (by decide) ?_
      refine V_lload (pc := 41) dX7_part_41 rfl ?_
      refine V_ldiv (pc := 43) dX7_part_43 (by first | assumption | exact lcmp_rg | (constructor <;> omega)) (by omega) ?_
      first | rw [ldiv_n hx (by omega)] | rw [ldiv_n hz (by omega)]
      refine V_lreturn (pc := 44) dX7_part_44 rfl (fun hR => ?_)
      first | (rw [if_pos (by assumption)] at h; exact h) | (rw [if_neg (by assumption)] at h; exact h)
  · skip
    have h10 : ¬ ((q : Int) = 0) := fun z => h10 (lcmp_0.mpr z)
    refine V_lload (pc := 13) dX7_part_13 rfl ?_
    refine V_lload (pc := 15) dX7_part_15 rfl ?_
    refine V_lrem (pc := 17) dX7_part_17 (by first | assumption | exact lcmp_rg | (constructor <;> omega)) (by omega) ?_
    rw [lrem_n hp2 hq]
    have hlt := Nat.mod_lt p (show 0 < q by omega)
    generalize hm : p % q = e at hlt ⊢
    refine V_lstore (pc := 18) dX7_part_18 (by decide) rfl ?_
    show V_ _ _ _ _ _ [_, _, _, _, _, _, _, _, _, _, _] _ _
    refine V_lload (pc := 20) dX7_part_20 rfl ?_
    refine V_lstore (pc := 22) dX7_part_22 (by decide) rfl ?_
    show V_ _ _ _ _ _ [_, _, _, _, _, _, _, _, _, _, _] _ _
    refine V_lload (pc := 24) dX7_part_24 rfl ?_
    refine V_lstore (pc := 26) dX7_part_26 (by decide) rfl ?_
    show V_ _ _ _ _ _ [_, _, _, _, _, _, _, _, _, _, _] _ _
    refine V_goto (tgt := 6) (pc := 28) dX7_part_28 (by decide) ?_
    refine V_none (k := 9) ?_
    show V_ _ _ _ _ _ [_, _, _, _, _, _, _, _, _, _, _] _ _
    exact V_cg (ih e (by omega) q (by omega) (by omega) (by rw [← hm, Nat.gcd_comm, ← Nat.gcd_rec, Nat.gcd_comm]; exact hg)) (by simp) rfl rfl
theorem ct_X7_part {x m : Nat} (hx : x < 4611686018427387904) (hm : m ≤ 31) {w : Int} (hw : Rg_ w) (h : post (some (vl_ (pt2_ (x : Int) ((2 ^ m : Nat) : Int) w))) σ) : V_ l D mX7_part (CM_ D mX7_part post) 0 [some (vl_ (x : Int)), none, some (vl_ ((2 ^ m : Nat) : Int)), none, some (vi_ w), none, none, none, none, none, none] [] σ := by
  have hz : 2 ^ m < 4611686018427387904 := Nat.lt_of_le_of_lt (Nat.pow_le_pow_right (by decide) hm) (by decide)
  rw [pt_g hm] at h
  refine V_lload_n (pc := 0) dX7_part_0 rfl rfl ?_
  refine V_lstore (pc := 1) dX7_part_1 (by decide) rfl ?_
  show V_ _ _ _ _ _ [_, _, _, _, _, _, _, _, _, _, _] _ _
  refine V_lload_n (pc := 3) dX7_part_3 rfl rfl ?_
  refine V_lstore (pc := 4) dX7_part_4 (by decide) rfl ?_
  show V_ _ _ _ _ _ [_, _, _, _, _, _, _, _, _, _, _] _ _
  exact V_cg (lp_X7_part hx hz hw (Nat.gcd_pos_of_pos_right _ (Nat.two_pow_pos m)) h (2 ^ m) x hx hz rfl) (by simp) rfl rfl
theorem lp_X7_fairOf {k z : Int} (hW : WF_ v) (hM : HM_ v σ) (hk : wN_ v k) (hz : Rg_ z) (h : post (some (vl_ (pt2_ (fr_ v k (v 0 0).toNat) 16 z))) σ) : ∀ i : Nat, i ≤ (v 0 0).toNat → V_ l D mX7_fairOf (CM_ D mX7_fairOf post) 5 [some (vr_ 38), some (vi_ k), some (vi_ z), some (vl_ (fr_ v k i)), none, some (vi_ (i : Int))] [] σ := by
  have ws := hW.s
  have wn := hW.n
  have wl := hW.l
  have wk := hW.k
  refine up_ _ (fun i hi ih => ?_)
  have hf := fr_rg hW (k := k) (n := i) (by omega)
  obtain ⟨q, hq⟩ := i_nat hf.1
  refine V_iload (pc := 5) dX7_fairOf_5 rfl ?_
  refine V_aload_n (pc := 7) dX7_fairOf_7 rfl rfl ?_
  refine V_getr (pc := 8) dX7_fairOf_8 fX7_28 rfl gg_38 rfl ?_
  refine V_iconst (pc := 11) dX7_fairOf_11 ?_
  refine V_iald (pc := 12) dX7_fairOf_12 gg_45 (by decide) (by decide) (fun r12 => ?_)
  rw [show σ 45 (0 : Int).toNat = v 0 0 from hM.1.1] at r12 ⊢
  refine V_icmp_ge (tgt := 46) (pc := 13) dX7_fairOf_13 (by decide) (by first | assumption | (constructor <;> omega)) (by first | assumption | (constructor <;> omega)) (fun h13 => ?_) (fun h13 => ?_)
  · skip
    refine V_lload_n (pc := 46) dX7_fairOf_46 rfl rfl ?_
    refine V_ldc2 (v := (16)) (z := 16) (pc := 47) dX7_fairOf_47 (tb_in 1133 (by decide +kernel) rfl) (by decide +kernel) ?_
    refine V_iload_n (pc := 50) dX7_fairOf_50 rfl rfl ?_
    refine V_callS (pc := 51) (as := [_, _, _]) (rest := []) dX7_fairOf_51 ⟨kX7_253, sX7_part, by decide, by decide⟩ rfl rfl (Nat.le_of_ble_eq_true rfl) (Nat.le_of_ble_eq_true rfl) ?_
    rw [show (v 0 0).toNat = i by omega] at h
    rw [hq] at h ⊢
    refine ct_X7_part (m := 4) (by omega) (by decide) (by assumption) ?_
    show V_ _ _ _ _ _ _ [_] _
    refine V_lreturn (pc := 54) dX7_fairOf_54 rfl (fun hR => ?_)
    exact h
  · skip
    refine V_lload_n (pc := 16) dX7_fairOf_16 rfl rfl ?_
    refine V_aload_n (pc := 17) dX7_fairOf_17 rfl rfl ?_
    refine V_getr (pc := 18) dX7_fairOf_18 fX7_31 rfl gg_38 rfl ?_
    refine V_iconst (pc := 21) dX7_fairOf_21 ?_
    refine V_iload (pc := 22) dX7_fairOf_22 rfl ?_
    refine V_imul (pc := 24) dX7_fairOf_24 ?_
    refine V_iconst (pc := 25) dX7_fairOf_25 ?_
    refine V_iadd (pc := 26) dX7_fairOf_26 ?_
    refine V_iald (pc := 27) dX7_fairOf_27 gg_46 (by omega) (by decide) (fun r27 => ?_)
    rw [show (2 * (i : Int) + 1).toNat = 2 * i + 1 by omega, (hM.si (k := i) (by omega)).2] at r27 ⊢
    refine V_i2l (pc := 28) dX7_fairOf_28 (by first | assumption | (constructor <;> omega)) ?_
    refine V_aload_n (pc := 29) dX7_fairOf_29 rfl rfl ?_
    refine V_iload (pc := 30) dX7_fairOf_30 rfl ?_
    refine V_iload_n (pc := 32) dX7_fairOf_32 rfl rfl ?_
    refine V_callV (pc := 33) (as := [_, _]) (rest := [_, _]) dX7_fairOf_33 ⟨kX7_161, iX7_borneOf, by decide, by decide⟩ rc_38 rfl rfl (Nat.le_of_ble_eq_true rfl) (Nat.le_of_ble_eq_true rfl) ?_
    refine ct_X7_borneOf hW hM (by constructor <;> omega) (by constructor <;> omega) ?_
    have hb := bo_rg hW (s := (i : Int)) (k := k) (n := (v 7 0).toNat) (by omega)
    have e0 : fr_ v k (i + 1) = fr_ v k i + v 2 i * bo_ v (i : Int) k (v 7 0).toNat := rfl
    show V_ _ _ _ _ _ _ [_, _, _] _
    refine V_i2l (pc := 36) dX7_fairOf_36 (by first | assumption | (constructor <;> omega)) ?_
    refine V_lmul (pc := 37) dX7_fairOf_37 ?_
    refine V_ladd (pc := 38) dX7_fairOf_38 ?_
    refine V_lstore_n (pc := 39) dX7_fairOf_39 rfl (by decide) rfl ?_
    show V_ _ _ _ _ _ [_, _, _, _, _, _] _ _
    refine V_iinc (pc := 40) dX7_fairOf_40 rfl (by decide) rfl ?_
    show V_ _ _ _ _ _ [_, _, _, _, _, _] _ _
    refine V_goto (tgt := 5) (pc := 43) dX7_fairOf_43 (by decide) ?_
    exact V_cg (ih (by omega)) (by rw [e0]; simp) rfl rfl
theorem ct_X7_fairOf {k z : Int} (hW : WF_ v) (hM : HM_ v σ) (hk : wN_ v k) (hz : Rg_ z) (h : post (some (vl_ (pt2_ (fr_ v k (v 0 0).toNat) 16 z))) σ) : V_ l D mX7_fairOf (CM_ D mX7_fairOf post) 0 [some (vr_ 38), some (vi_ k), some (vi_ z), none, none, none] [] σ := by
  refine V_lconst (z := 0) (pc := 0) dX7_fairOf_0 rfl ?_
  refine V_lstore_n (pc := 1) dX7_fairOf_1 rfl (by decide) rfl ?_
  show V_ _ _ _ _ _ [_, _, _, _, _, _] _ _
  refine V_iconst (pc := 2) dX7_fairOf_2 ?_
  refine V_istore (pc := 3) dX7_fairOf_3 (by decide) rfl ?_
  show V_ _ _ _ _ _ [_, _, _, _, _, _] _ _
  exact V_cg (lp_X7_fairOf hW hM hk hz h 0 (Nat.zero_le _)) (by simp [fr_, sm_]) rfl rfl
end
