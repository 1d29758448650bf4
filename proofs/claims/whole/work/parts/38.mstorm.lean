/-! ## class DrownedNamesModel: storms -/
theorem sm_ad {f : Nat → Int} {a : Nat} : ∀ b, sm_ f (a + b) = sm_ f a + sm_ (fun j => f (a + j)) b := by
  intro b
  induction b with
  | zero => show sm_ f a = sm_ f a + 0; omega
  | succ b ih => show sm_ f (a + b) + f (a + b) = sm_ f a + (sm_ (fun j => f (a + j)) b + f (a + b)); rw [ih]; omega
theorem sm_mu {f : Nat → Int} {c : Int} : ∀ n, sm_ (fun j => f j * c) n = sm_ f n * c := by
  intro n
  induction n with
  | zero => show (0 : Int) = 0 * c; rw [Int.zero_mul]
  | succ n ih => show sm_ (fun j => f j * c) n + f n * c = (sm_ f n + f n) * c; rw [ih, Int.add_mul]
theorem ch_up {v : Mm_} {j n : Nat} : ∀ m, m ≤ n → ch_ v ((2 ^ n + j : Nat) : Int) m = ch_ v (j : Int) m := by
  intro m
  induction m with
  | zero => intro _; rfl
  | succ m ih =>
    intro h
    have e : bt_ ((2 ^ n + j : Nat) : Int) (m : Int) = bt_ (j : Int) (m : Int) := by
      unfold bt_
      rw [Int.toNat_natCast, Int.toNat_natCast, Int.toNat_natCast]
      exact Nat.testBit_two_pow_add_gt (by omega) j
    unfold ch_
    rw [ih (by omega), e]
theorem ch_sum {v : Mm_} : ∀ n, sm_ (fun j => ch_ v (j : Int) n) (2 ^ n) = ((16 ^ n : Nat) : Int) := by
  intro n
  induction n with
  | zero => simp [sm_, ch_]
  | succ n ih =>
    have h1 : sm_ (fun j => ch_ v (j : Int) (n + 1)) (2 ^ n) = sm_ (fun j => ch_ v (j : Int) n * (16 - v 2 n)) (2 ^ n) := sm_cg (fun j hj => by
      show ch_ v (j : Int) n * _ = _
      rw [if_neg (by unfold bt_; rw [Int.toNat_natCast, Int.toNat_natCast, Nat.testBit_lt_two_pow hj]; decide)])
    have h2 : sm_ (fun j => ch_ v ((2 ^ n + j : Nat) : Int) (n + 1)) (2 ^ n) = sm_ (fun j => ch_ v (j : Int) n * v 2 n) (2 ^ n) := sm_cg (fun j hj => by
      show ch_ v ((2 ^ n + j : Nat) : Int) n * _ = _
      rw [ch_up n (Nat.le_refl _), if_pos (by unfold bt_; rw [Int.toNat_natCast, Int.toNat_natCast, Nat.testBit_two_pow_add_eq, Nat.testBit_lt_two_pow hj]; rfl)])
    rw [show 2 ^ (n + 1) = 2 ^ n + 2 ^ n by rw [Nat.pow_succ]; omega, sm_ad, h1, h2, sm_mu, sm_mu, ih, ← Int.mul_add, Nat.pow_succ]
    rw [show 16 - v 2 n + v 2 n = 16 by omega]
    omega
theorem sn_2 {v : Mm_} {k : Nat} {m : Int} : ∀ n, (sn_ v k m n).2 = sm_ (fun j => ch_ v (j : Int) (v 0 0).toNat) n := by
  intro n
  induction n with
  | zero => rfl
  | succ n ih => show (sn_ v k m n).2 + _ = sm_ _ n + _; rw [ih]
theorem sn_16 {v : Mm_} {k : Nat} {m : Int} : (sn_ v k m (ss_ v)).2 = ((16 ^ (v 0 0).toNat : Nat) : Int) := by
  rw [sn_2]; exact ch_sum _
section
variable {l : Launch} {D : Dt_} {a v w u σ r : Mm_} {post : Option Av_ → Mm_ → Prop}
theorem l3_X7_stormOf (hW : WF_ v) {k m z : Int} (hk : wN_ v k) (hm : 0 ≤ m ∧ m ≤ 99) (hz : Rg_ z) {i : Nat} (hi : i < 64) {A : Int} (hK : ∀ τ, HM_ v τ → τ 38 21 = 255 → F4_ σ τ → RD_ v (to_ v (i : Int) (v 0 0).toNat) τ → V_ l D mX7_stormOf (CM_ D mX7_stormOf post) 139 [some (vr_ 38), some (vi_ k), some (vi_ m), some (vi_ z), some (vl_ A), none, some (vl_ ((16 ^ (v 0 0).toNat : Nat) : Int)), none, some (vi_ (i : Int)), some (vl_ (ch_ v (i : Int) (v 0 0).toNat)), none, none] [] τ) : ∀ s : Nat, s ≤ (v 0 0).toNat → ∀ τ, HM_ v τ → τ 38 21 = 255 → F4_ σ τ → RD_ v (to_ v (i : Int) s) τ → V_ l D mX7_stormOf (CM_ D mX7_stormOf post) 60 [some (vr_ 38), some (vi_ k), some (vi_ m), some (vi_ z), some (vl_ A), none, some (vl_ ((16 ^ (v 0 0).toNat : Nat) : Int)), none, some (vi_ (i : Int)), some (vl_ (ch_ v (i : Int) s)), none, some (vi_ (s : Int))] [] τ := by
  have ws := hW.s
  have wn := hW.n
  have wl := hW.l
  have wk := hW.k
  refine up_ _ (fun s hs ih τ hM hsd hF hRC => ?_)
  have hRp := to_RW hW (set := (i : Int)) s
  have hc := ch_rg hW (set := (i : Int)) (n := s) (by omega)
  have h16 := p16 (n := s) (by omega)
  refine V_iload (pc := 60) dX7_stormOf_60 rfl ?_
  refine V_aload_n (pc := 62) dX7_stormOf_62 rfl rfl ?_
  refine V_getr (pc := 63) dX7_stormOf_63 fX7_28 rfl gg_38 rfl ?_
  refine V_iconst (pc := 66) dX7_stormOf_66 ?_
  refine V_iald (pc := 67) dX7_stormOf_67 gg_45 (by decide) (by decide) (fun r67 => ?_)
  rw [show τ 45 (0 : Int).toNat = v 0 0 from hM.1.1] at r67 ⊢
  refine V_icmp_ge (tgt := 139) (pc := 68) dX7_stormOf_68 (by decide) (by first | assumption | exact b2_rg | (constructor <;> omega)) (by first | assumption | exact b2_rg | (constructor <;> omega)) (fun h68 => ?_) (fun h68 => ?_)
  · skip
    refine V_none (k := 11) ?_
    show V_ _ _ _ _ _ [_, _, _, _, _, _, _, _, _, _, _, _] _ _
    exact V_cg (hK _ hM hsd hF (by rw [show (v 0 0).toNat = s by omega]; exact hRC)) (by rw [show (v 0 0).toNat = s by omega]) rfl rfl
  · skip
    have wz := hW.si (k := s) (by omega)
    refine V_lload (pc := 71) dX7_stormOf_71 rfl ?_
    refine V_iload (pc := 73) dX7_stormOf_73 rfl ?_
    refine V_iload (pc := 75) dX7_stormOf_75 rfl ?_
    refine V_callS (pc := 77) (as := [_, _]) (rest := [_]) dX7_stormOf_77 ⟨kX7_139, sX7_isIn, by decide, by decide⟩ rfl rfl (Nat.le_of_ble_eq_true rfl) (Nat.le_of_ble_eq_true rfl) ?_
    refine ct_X7_isIn (by omega) (by omega) ?_
    show V_ _ _ _ _ _ _ [_, _] _
    refine V_if_eq (tgt := 98) (pc := 80) dX7_stormOf_80 (by decide) b2_rg (fun h80 => ?_) (fun h80 => ?_)
    · skip
      rw [b2_0] at h80
      have e1 : ch_ v (i : Int) (s + 1) = ch_ v (i : Int) s * (16 - v 2 s) := by show ch_ v (i : Int) s * _ = _; rw [if_neg h80]
      refine V_bipush (pc := 98) dX7_stormOf_98 (by decide) ?_
      refine V_aload_n (pc := 100) dX7_stormOf_100 rfl rfl ?_
      refine V_getr (pc := 101) dX7_stormOf_101 fX7_31 rfl gg_38 rfl ?_
      refine V_iconst (pc := 104) dX7_stormOf_104 ?_
      refine V_iload (pc := 105) dX7_stormOf_105 rfl ?_
      refine V_imul (pc := 107) dX7_stormOf_107 ?_
      refine V_iconst (pc := 108) dX7_stormOf_108 ?_
      refine V_iadd (pc := 109) dX7_stormOf_109 ?_
      refine V_iald (pc := 110) dX7_stormOf_110 gg_46 (by omega) (by decide) (fun r110 => ?_)
      rw [show (2 * (s : Int) + 1).toNat = 2 * s + 1 by omega, (hM.si (k := s) (by omega)).2] at r110 ⊢
      refine V_isub (pc := 111) dX7_stormOf_111 ?_
      refine V_i2l (pc := 112) dX7_stormOf_112 (by first | assumption | exact b2_rg | (constructor <;> omega)) ?_
      refine V_lmul (pc := 113) dX7_stormOf_113 ?_
      refine V_lstore (pc := 114) dX7_stormOf_114 (by decide) rfl ?_
      show V_ _ _ _ _ _ [_, _, _, _, _, _, _, _, _, _, _, _] _ _
      refine V_iload (pc := 116) dX7_stormOf_116 rfl ?_
      refine V_iload (pc := 118) dX7_stormOf_118 rfl ?_
      refine V_callS (pc := 120) (as := [_, _]) (rest := []) dX7_stormOf_120 ⟨kX7_139, sX7_isIn, by decide, by decide⟩ rfl rfl (Nat.le_of_ble_eq_true rfl) (Nat.le_of_ble_eq_true rfl) ?_
      refine ct_X7_isIn (by omega) (by omega) ?_
      show V_ _ _ _ _ _ _ [_] _
      refine V_if_eq (tgt := 133) (pc := 123) dX7_stormOf_123 (by decide) b2_rg (fun h123 => ?_) (fun h123 => ?_)
      · skip
        rw [b2_0] at h123
        have e0 : to_ v (i : Int) (s + 1) = to_ v (i : Int) s := if_neg h123
        refine V_iinc (pc := 133) dX7_stormOf_133 rfl (by decide) rfl ?_
        show V_ _ _ _ _ _ [_, _, _, _, _, _, _, _, _, _, _, _] _ _
        refine V_goto (tgt := 60) (pc := 136) dX7_stormOf_136 (by decide) ?_
        exact V_cg (ih (by omega) _ hM hsd hF (by rw [e0]; exact hRC)) (by rw [e1]; simp) rfl rfl
      · skip
        rw [b2_n0] at h123
        have e0 : to_ v (i : Int) (s + 1) = si_ v 255 0 (s : Int) (to_ v (i : Int) s) := if_pos h123
        refine V_aload_n (pc := 126) dX7_stormOf_126 rfl rfl ?_
        refine V_iconst (pc := 127) dX7_stormOf_127 ?_
        refine V_iload (pc := 128) dX7_stormOf_128 rfl ?_
        refine V_callV (pc := 130) (as := [_, _]) (rest := []) dX7_stormOf_130 ⟨kX7_192, iX7_goes, by decide, by decide⟩ rc_38 rfl rfl (Nat.le_of_ble_eq_true rfl) (Nat.le_of_ble_eq_true rfl) ?_
        refine ct_X7_goes hW hRp (by omega) (by decide) (by decide) hM hsd hRC (fun ρ hB1 hB2 => ?_)
        show V_ _ _ _ _ _ _ [] _
        refine V_iinc (pc := 133) dX7_stormOf_133 rfl (by decide) rfl ?_
        show V_ _ _ _ _ _ [_, _, _, _, _, _, _, _, _, _, _, _] _ _
        refine V_goto (tgt := 60) (pc := 136) dX7_stormOf_136 (by decide) ?_
        exact V_cg (ih (by omega) _ (hM.f4 hB2) (hB2.sd hsd) (hF.tr hB2) (by rw [e0]; exact hB1)) (by rw [e1]; simp) rfl rfl
    · skip
      rw [b2_n0] at h80
      have e1 : ch_ v (i : Int) (s + 1) = ch_ v (i : Int) s * v 2 s := by show ch_ v (i : Int) s * _ = _; rw [if_pos h80]
      refine V_aload_n (pc := 83) dX7_stormOf_83 rfl rfl ?_
      refine V_getr (pc := 84) dX7_stormOf_84 fX7_31 rfl gg_38 rfl ?_
      refine V_iconst (pc := 87) dX7_stormOf_87 ?_
      refine V_iload (pc := 88) dX7_stormOf_88 rfl ?_
      refine V_imul (pc := 90) dX7_stormOf_90 ?_
      refine V_iconst (pc := 91) dX7_stormOf_91 ?_
      refine V_iadd (pc := 92) dX7_stormOf_92 ?_
      refine V_iald (pc := 93) dX7_stormOf_93 gg_46 (by omega) (by decide) (fun r93 => ?_)
      rw [show (2 * (s : Int) + 1).toNat = 2 * s + 1 by omega, (hM.si (k := s) (by omega)).2] at r93 ⊢
      refine V_i2l (pc := 94) dX7_stormOf_94 (by first | assumption | exact b2_rg | (constructor <;> omega)) ?_
      refine V_goto (tgt := 113) (pc := 95) dX7_stormOf_95 (by decide) ?_
      refine V_lmul (pc := 113) dX7_stormOf_113 ?_
      refine V_lstore (pc := 114) dX7_stormOf_114 (by decide) rfl ?_
      show V_ _ _ _ _ _ [_, _, _, _, _, _, _, _, _, _, _, _] _ _
      refine V_iload (pc := 116) dX7_stormOf_116 rfl ?_
      refine V_iload (pc := 118) dX7_stormOf_118 rfl ?_
      refine V_callS (pc := 120) (as := [_, _]) (rest := []) dX7_stormOf_120 ⟨kX7_139, sX7_isIn, by decide, by decide⟩ rfl rfl (Nat.le_of_ble_eq_true rfl) (Nat.le_of_ble_eq_true rfl) ?_
      refine ct_X7_isIn (by omega) (by omega) ?_
      show V_ _ _ _ _ _ _ [_] _
      refine V_if_eq (tgt := 133) (pc := 123) dX7_stormOf_123 (by decide) b2_rg (fun h123 => ?_) (fun h123 => ?_)
      · skip
        rw [b2_0] at h123
        have e0 : to_ v (i : Int) (s + 1) = to_ v (i : Int) s := if_neg h123
        refine V_iinc (pc := 133) dX7_stormOf_133 rfl (by decide) rfl ?_
        show V_ _ _ _ _ _ [_, _, _, _, _, _, _, _, _, _, _, _] _ _
        refine V_goto (tgt := 60) (pc := 136) dX7_stormOf_136 (by decide) ?_
        exact V_cg (ih (by omega) _ hM hsd hF (by rw [e0]; exact hRC)) (by rw [e1]; simp) rfl rfl
      · skip
        rw [b2_n0] at h123
        have e0 : to_ v (i : Int) (s + 1) = si_ v 255 0 (s : Int) (to_ v (i : Int) s) := if_pos h123
        refine V_aload_n (pc := 126) dX7_stormOf_126 rfl rfl ?_
        refine V_iconst (pc := 127) dX7_stormOf_127 ?_
        refine V_iload (pc := 128) dX7_stormOf_128 rfl ?_
        refine V_callV (pc := 130) (as := [_, _]) (rest := []) dX7_stormOf_130 ⟨kX7_192, iX7_goes, by decide, by decide⟩ rc_38 rfl rfl (Nat.le_of_ble_eq_true rfl) (Nat.le_of_ble_eq_true rfl) ?_
        refine ct_X7_goes hW hRp (by omega) (by decide) (by decide) hM hsd hRC (fun ρ hB1 hB2 => ?_)
        show V_ _ _ _ _ _ _ [] _
        refine V_iinc (pc := 133) dX7_stormOf_133 rfl (by decide) rfl ?_
        show V_ _ _ _ _ _ [_, _, _, _, _, _, _, _, _, _, _, _] _ _
        refine V_goto (tgt := 60) (pc := 136) dX7_stormOf_136 (by decide) ?_
        exact V_cg (ih (by omega) _ (hM.f4 hB2) (hB2.sd hsd) (hF.tr hB2) (by rw [e0]; exact hB1)) (by rw [e1]; simp) rfl rfl
theorem l2_X7_stormOf (hW : WF_ v) {k m z : Int} (hk : wN_ v k) (hm : 0 ≤ m ∧ m ≤ 99) (hz : Rg_ z) (hK : ∀ τ, F4_ σ τ → post (some (vl_ (pt2_ (sn_ v k.toNat m (ss_ v)).1 (sn_ v k.toNat m (ss_ v)).2 z))) τ) : ∀ i : Nat, i ≤ ss_ v → ∀ τ, HM_ v τ → τ 38 21 = 255 → F4_ σ τ → V_ l D mX7_stormOf (CM_ D mX7_stormOf post) 37 [some (vr_ 38), some (vi_ k), some (vi_ m), some (vi_ z), some (vl_ (sn_ v k.toNat m i).1), none, some (vl_ ((16 ^ (v 0 0).toNat : Nat) : Int)), none, some (vi_ (i : Int)), none, none, none] [] τ := by
  have ws := hW.s
  have wn := hW.n
  have wl := hW.l
  have wk := hW.k
  have hss := ss_rg hW
  refine up_ _ (fun i hi ih τ hM hsd hF => ?_)
  have hs := sn_rg hW (k := k.toNat) (m := m) (n := i)
  have hcb := ch_b hW (set := (i : Int))
  obtain ⟨q, hq⟩ := i_nat hs.1.1
  have h4 : (16 ^ (v 0 0).toNat) = 2 ^ (4 * (v 0 0).toNat) := by rw [Nat.pow_mul]
  refine V_iload (pc := 37) dX7_stormOf_37 rfl ?_
  refine V_iconst (pc := 39) dX7_stormOf_39 ?_
  refine V_aload_n (pc := 40) dX7_stormOf_40 rfl rfl ?_
  refine V_getr (pc := 41) dX7_stormOf_41 fX7_28 rfl gg_38 rfl ?_
  refine V_iconst (pc := 44) dX7_stormOf_44 ?_
  refine V_iald (pc := 45) dX7_stormOf_45 gg_45 (by decide) (by decide) (fun r45 => ?_)
  rw [show τ 45 (0 : Int).toNat = v 0 0 from hM.1.1] at r45 ⊢
  refine V_ishl (pc := 46) dX7_stormOf_46 ?_
  rw [ss_sh hW]
  refine V_icmp_ge (tgt := 166) (pc := 47) dX7_stormOf_47 (by decide) (by first | assumption | exact b2_rg | (constructor <;> omega)) (by first | assumption | exact b2_rg | (constructor <;> omega)) (fun h47 => ?_) (fun h47 => ?_)
  · skip
    refine V_lload (pc := 166) dX7_stormOf_166 rfl ?_
    refine V_lload (pc := 168) dX7_stormOf_168 rfl ?_
    refine V_iload_n (pc := 170) dX7_stormOf_170 rfl rfl ?_
    refine V_callS (pc := 171) (as := [_, _, _]) (rest := []) dX7_stormOf_171 ⟨kX7_253, sX7_part, by decide, by decide⟩ rfl rfl (Nat.le_of_ble_eq_true rfl) (Nat.le_of_ble_eq_true rfl) ?_
    have hKK := hK _ hF
    rw [sn_16, show ss_ v = i by omega, hq, h4] at hKK
    rw [hq, h4]
    refine ct_X7_part (by omega) (by omega) (by assumption) ?_
    show V_ _ _ _ _ _ _ [_] _
    refine V_lreturn (pc := 174) dX7_stormOf_174 rfl (fun hR => ?_)
    exact hKK
  · skip
    refine V_lconst (z := 1) (pc := 50) dX7_stormOf_50 rfl ?_
    refine V_lstore (pc := 51) dX7_stormOf_51 (by decide) rfl ?_
    show V_ _ _ _ _ _ [_, _, _, _, _, _, _, _, _, _, _, _] _ _
    refine V_aload_n (pc := 53) dX7_stormOf_53 rfl rfl ?_
    refine V_callV (pc := 54) (as := []) (rest := []) dX7_stormOf_54 ⟨kX7_189, iX7_begins, by decide, by decide⟩ rc_38 rfl rfl (Nat.le_of_ble_eq_true rfl) (Nat.le_of_ble_eq_true rfl) ?_
    refine ct_X7_begins hW hM (fun ρ hB1 hB2 => ?_)
    show V_ _ _ _ _ _ _ [] _
    refine V_iconst (pc := 57) dX7_stormOf_57 ?_
    refine V_istore (pc := 58) dX7_stormOf_58 (by decide) rfl ?_
    show V_ _ _ _ _ _ [_, _, _, _, _, _, _, _, _, _, _, _] _ _
    refine V_cg (l3_X7_stormOf hW hk hm hz (i := i) (by omega) (A := (sn_ v k.toNat m i).1) (fun τ hM hsd hF hRC => ?_) 0 (Nat.zero_le _) _ (hM.f4 hB2) (hB2.sd hsd) (hF.tr hB2) hB1) (by simp [ch_]) rfl rfl
    refine V_lload (pc := 139) dX7_stormOf_139 rfl ?_
    refine V_aload_n (pc := 141) dX7_stormOf_141 rfl rfl ?_
    refine V_getr (pc := 142) dX7_stormOf_142 fX7_43 rfl gg_38 rfl ?_
    refine V_iload_n (pc := 145) dX7_stormOf_145 rfl rfl ?_
    refine V_iald (pc := 146) dX7_stormOf_146 gg_50 (by omega) (by decide) (fun r146 => ?_)
    rw [hRC.1 k.toNat (by omega)] at r146 ⊢
    have hlr := (to_RW hW (set := (i : Int)) (v 0 0).toNat).1 k.toNat (by omega)
    refine V_iload_n (pc := 147) dX7_stormOf_147 rfl rfl ?_
    refine V_icmp_lt (tgt := 156) (pc := 148) dX7_stormOf_148 (by decide) (by first | assumption | exact b2_rg | (constructor <;> omega)) (by first | assumption | exact b2_rg | (constructor <;> omega)) (fun h148 => ?_) (fun h148 => ?_)
    · skip
      have e0 : sn_ v k.toNat m (i + 1) = ((sn_ v k.toNat m i).1 + 0, (sn_ v k.toNat m i).2 + ch_ v (i : Int) (v 0 0).toNat) := by show (_ + (if _ then _ else _), _) = _; rw [if_neg (by omega)]
      refine V_lconst (z := 0) (pc := 156) dX7_stormOf_156 rfl ?_
      refine V_ladd (pc := 157) dX7_stormOf_157 ?_
      refine V_lstore (pc := 158) dX7_stormOf_158 (by decide) rfl ?_
      show V_ _ _ _ _ _ [_, _, _, _, _, _, _, _, _, _, _, _] _ _
      refine V_iinc (pc := 160) dX7_stormOf_160 rfl (by decide) rfl ?_
      show V_ _ _ _ _ _ [_, _, _, _, _, _, _, _, _, _, _, _] _ _
      refine V_goto (tgt := 37) (pc := 163) dX7_stormOf_163 (by decide) ?_
      refine V_none (k := 9) ?_
      show V_ _ _ _ _ _ [_, _, _, _, _, _, _, _, _, _, _, _] _ _
      exact V_cg (ih (by omega) _ hM hsd hF) (by rw [e0]; simp) rfl rfl
    · skip
      have e0 : sn_ v k.toNat m (i + 1) = ((sn_ v k.toNat m i).1 + ch_ v (i : Int) (v 0 0).toNat, (sn_ v k.toNat m i).2 + ch_ v (i : Int) (v 0 0).toNat) := by show (_ + (if _ then _ else _), _) = _; rw [if_pos (by omega)]
      refine V_lload (pc := 151) dX7_stormOf_151 rfl ?_
      refine V_goto (tgt := 157) (pc := 153) dX7_stormOf_153 (by decide) ?_
      refine V_ladd (pc := 157) dX7_stormOf_157 ?_
      refine V_lstore (pc := 158) dX7_stormOf_158 (by decide) rfl ?_
      show V_ _ _ _ _ _ [_, _, _, _, _, _, _, _, _, _, _, _] _ _
      refine V_iinc (pc := 160) dX7_stormOf_160 rfl (by decide) rfl ?_
      show V_ _ _ _ _ _ [_, _, _, _, _, _, _, _, _, _, _, _] _ _
      refine V_goto (tgt := 37) (pc := 163) dX7_stormOf_163 (by decide) ?_
      refine V_none (k := 9) ?_
      show V_ _ _ _ _ _ [_, _, _, _, _, _, _, _, _, _, _, _] _ _
      exact V_cg (ih (by omega) _ hM hsd hF) (by rw [e0]; simp) rfl rfl
theorem l1_X7_stormOf (hW : WF_ v) {k m z : Int} (hk : wN_ v k) (hm : 0 ≤ m ∧ m ≤ 99) (hz : Rg_ z) (hM : HM_ v σ) (hsd : σ 38 21 = 255) (hK : ∀ τ, F4_ σ τ → post (some (vl_ (pt2_ (sn_ v k.toNat m (ss_ v)).1 (sn_ v k.toNat m (ss_ v)).2 z))) τ) : ∀ i : Nat, i ≤ (v 0 0).toNat → V_ l D mX7_stormOf (CM_ D mX7_stormOf post) 9 [some (vr_ 38), some (vi_ k), some (vi_ m), some (vi_ z), some (vl_ 0), none, some (vl_ ((16 ^ i : Nat) : Int)), none, some (vi_ (i : Int)), none, none, none] [] σ := by
  have ws := hW.s
  have wn := hW.n
  have wl := hW.l
  have wk := hW.k
  refine up_ _ (fun i hi ih => ?_)
  have h16 := p16 (n := i) (by omega)
  have h0 : (0 : Int) ≤ ((16 ^ i : Nat) : Int) := Int.natCast_nonneg _
  have hs : ((16 ^ (i + 1) : Nat) : Int) = ((16 ^ i : Nat) : Int) * 16 := by rw [Nat.pow_succ, Int.natCast_mul]; rfl
  refine V_iload (pc := 9) dX7_stormOf_9 rfl ?_
  refine V_aload_n (pc := 11) dX7_stormOf_11 rfl rfl ?_
  refine V_getr (pc := 12) dX7_stormOf_12 fX7_28 rfl gg_38 rfl ?_
  refine V_iconst (pc := 15) dX7_stormOf_15 ?_
  refine V_iald (pc := 16) dX7_stormOf_16 gg_45 (by decide) (by decide) (fun r16 => ?_)
  rw [show σ 45 (0 : Int).toNat = v 0 0 from hM.1.1] at r16 ⊢
  refine V_icmp_ge (tgt := 34) (pc := 17) dX7_stormOf_17 (by decide) (by first | assumption | exact b2_rg | (constructor <;> omega)) (by first | assumption | exact b2_rg | (constructor <;> omega)) (fun h17 => ?_) (fun h17 => ?_)
  · skip
    refine V_iconst (pc := 34) dX7_stormOf_34 ?_
    refine V_istore (pc := 35) dX7_stormOf_35 (by decide) rfl ?_
    show V_ _ _ _ _ _ [_, _, _, _, _, _, _, _, _, _, _, _] _ _
    exact V_cg (l2_X7_stormOf hW hk hm hz hK 0 (Nat.zero_le _) _ hM hsd F4_.rf) (by rw [show (v 0 0).toNat = i by omega]; simp [sn_]) rfl rfl
  · skip
    refine V_lload (pc := 20) dX7_stormOf_20 rfl ?_
    refine V_ldc2 (v := (16)) (z := 16) (pc := 22) dX7_stormOf_22 (tb_in 1133 (by decide +kernel) rfl) (by decide +kernel) ?_
    refine V_lmul (pc := 25) dX7_stormOf_25 ?_
    refine V_lstore (pc := 26) dX7_stormOf_26 (by decide) rfl ?_
    show V_ _ _ _ _ _ [_, _, _, _, _, _, _, _, _, _, _, _] _ _
    refine V_iinc (pc := 28) dX7_stormOf_28 rfl (by decide) rfl ?_
    show V_ _ _ _ _ _ [_, _, _, _, _, _, _, _, _, _, _, _] _ _
    refine V_goto (tgt := 9) (pc := 31) dX7_stormOf_31 (by decide) ?_
    exact V_cg (ih (by omega)) (by rw [hs]; simp) rfl rfl
theorem ct_X7_stormOf (hW : WF_ v) {k m z : Int} (hk : wN_ v k) (hm : 0 ≤ m ∧ m ≤ 99) (hz : Rg_ z) (hM : HM_ v σ) (hsd : σ 38 21 = 255) (hK : ∀ τ, F4_ σ τ → post (some (vl_ (pt2_ (sn_ v k.toNat m (ss_ v)).1 (sn_ v k.toNat m (ss_ v)).2 z))) τ) : V_ l D mX7_stormOf (CM_ D mX7_stormOf post) 0 [some (vr_ 38), some (vi_ k), some (vi_ m), some (vi_ z), none, none, none, none, none, none, none, none] [] σ := by
  refine V_lconst (z := 0) (pc := 0) dX7_stormOf_0 rfl ?_
  refine V_lstore (pc := 1) dX7_stormOf_1 (by decide) rfl ?_
  show V_ _ _ _ _ _ [_, _, _, _, _, _, _, _, _, _, _, _] _ _
  refine V_lconst (z := 1) (pc := 3) dX7_stormOf_3 rfl ?_
  refine V_lstore (pc := 4) dX7_stormOf_4 (by decide) rfl ?_
  show V_ _ _ _ _ _ [_, _, _, _, _, _, _, _, _, _, _, _] _ _
  refine V_iconst (pc := 6) dX7_stormOf_6 ?_
  refine V_istore (pc := 7) dX7_stormOf_7 (by decide) rfl ?_
  show V_ _ _ _ _ _ [_, _, _, _, _, _, _, _, _, _, _, _] _ _
  exact V_cg (l1_X7_stormOf hW hk hm hz hM hsd hK 0 (Nat.zero_le _)) (by simp) rfl rfl
end
