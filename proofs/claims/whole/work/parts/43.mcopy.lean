/-! ## class DrownedNamesModel: copy, write, read, count -/
theorem ap_rw {a : Mm_} {y s : Int} {k : Nat} (h : k ≠ 5 ∧ k ≠ 6 ∧ k ≠ 7) : ap_ a y s k = a k := by unfold ap_; rw [ms_rw h.1, ms_rw h.2.2, ms_rw h.2.1]
theorem AW_.app {a : Mm_} {y s : Int} {q : Nat} (hA : AW_ a) (hy : 0 ≤ y ∧ y ≤ 29) (hs : 0 ≤ s ∧ s ≤ 5) (hq : a 5 0 = (q : Int)) (hqc : q < 12) : AW_ (ap_ a y s) := by
  have hLW := hA.2.2.2.1
  have ew : ww_ (ap_ a y s) = ww_ a := ww_cg (ap_rw (by decide)) (ap_rw (by decide)) (ap_rw (by decide))
  have e0 : uu_ (ap_ a y s) 0 0 = (q : Int) + 1 := by show ap_ a y s 5 0 = _; unfold ap_; rw [ms_eq, hq]
  have e1 : ∀ i, uu_ (ap_ a y s) 1 i = if i = q then y else uu_ a 1 i := fun i => by show ap_ a y s 6 i = if i = q then y else a 6 i; unfold ap_; rw [hq]; simp [ms_]
  have e2 : ∀ i, uu_ (ap_ a y s) 2 i = if i = q then s else uu_ a 2 i := fun i => by show ap_ a y s 7 i = if i = q then s else a 7 i; unfold ap_; rw [hq]; simp [ms_]
  have hu0 : uu_ a 0 0 = (q : Int) := hq
  obtain ⟨q0, q1, q4, q5, q6, q7, q8, q9⟩ := hA
  refine ⟨?_, ?_, ?_, ⟨by rw [e0]; omega, fun i hi => ?_⟩, by rw [ew]; exact q6, ?_, ?_, ?_⟩
  · rw [ap_rw (by decide)]; exact q0
  · rw [ap_rw (by decide), ap_rw (by decide), ap_rw (by decide)]; exact q1
  · rw [ap_rw (by decide)]; exact q4
  · rw [e0] at hi
    rw [e1, e2]
    by_cases c : i = q
    · rw [if_pos c, if_pos c]; exact ⟨hy, hs⟩
    · rw [if_neg c, if_neg c]; exact hLW.2 i (by omega)
  · rw [ap_rw (by decide), ap_rw (by decide)]; exact q7
  · rw [ap_rw (by decide)]; exact q8
  · unfold ap_
    exact ((q9.ms (by constructor <;> omega)).ms (by constructor <;> omega)).ms (by constructor <;> omega)
section
variable {l : Launch} {D : Dt_} {a σ : Mm_} {post : Option Av_ → Mm_ → Prop}
theorem lq_X7_copy {k p u r N : Nat} (hk : k < 4) (hu : u < 4) (hp : p + N ≤ 60) (hr : r + N ≤ 60) (h : post (some (vi_ 1)) (wo_ (wr_ σ 42 (fun c => σ 41 (60 * k + p + c)) N) 41 (60 * u + r) (fun c => (wr_ σ 42 (fun c => σ 41 (60 * k + p + c)) N) 42 c) N)) : ∀ i : Nat, i ≤ N → V_ l D mX7_copy (CM_ D mX7_copy post) 157 [some (vr_ 38), some (vi_ (k : Int)), some (vi_ (p : Int)), some (vi_ (u : Int)), some (vi_ (r : Int)), some (vi_ (N : Int)), some (vi_ (i : Int))] [] (wo_ (wr_ σ 42 (fun c => σ 41 (60 * k + p + c)) N) 41 (60 * u + r) (fun c => (wr_ σ 42 (fun c => σ 41 (60 * k + p + c)) N) 42 c) i) := by
  refine up_ _ (fun i hi ih => ?_)
  refine V_iload (pc := 157) dX7_copy_157 rfl ?_
  refine V_iload (pc := 159) dX7_copy_159 rfl ?_
  refine V_icmp_ge (tgt := 192) (pc := 161) dX7_copy_161 (by decide) (by first | assumption | exact b2_rg | decide | (constructor <;> omega)) (by first | assumption | exact b2_rg | decide | (constructor <;> omega)) (fun h161 => ?_) (fun h161 => ?_)
  · skip
    refine V_iconst (pc := 192) dX7_copy_192 ?_
    refine V_ireturn (pc := 193) dX7_copy_193 rfl rfl (fun hR => ?_)
    rw [show i = N by omega]; exact h
  · skip
    refine V_aload_n (pc := 164) dX7_copy_164 rfl rfl ?_
    refine V_getr (pc := 165) dX7_copy_165 fX7_16 rfl gg_38 rfl ?_
    refine V_bipush (pc := 168) dX7_copy_168 (by decide) ?_
    refine V_iload_n (pc := 170) dX7_copy_170 rfl rfl ?_
    refine V_imul (pc := 171) dX7_copy_171 ?_
    refine V_iload (pc := 172) dX7_copy_172 rfl ?_
    refine V_iadd (pc := 174) dX7_copy_174 ?_
    refine V_iload (pc := 175) dX7_copy_175 rfl ?_
    refine V_iadd (pc := 177) dX7_copy_177 ?_
    refine V_aload_n (pc := 178) dX7_copy_178 rfl rfl ?_
    refine V_getr (pc := 179) dX7_copy_179 fX7_19 rfl gg_38 rfl ?_
    refine V_iload (pc := 182) dX7_copy_182 rfl ?_
    refine V_ialdN (pc := 184) dX7_copy_184 gg_42 (by omega) (by decide) (fun r184 => ?_)
    rw [wo_rw (by decide)] at r184 ⊢
    refine V_iast (pc := 185) dX7_copy_185 gg_41 (by have : ((240 : Nat) : Int) = 240 := rfl; omega) (by decide) (by first | assumption | exact b2_rg | decide | (constructor <;> omega)) ?_
    rw [show (60 * (u : Int) + (r : Int) + (i : Int)).toNat = 60 * u + r + i by omega, wo_s rfl]
    refine V_iinc (pc := 186) dX7_copy_186 rfl (by decide) rfl ?_
    show V_ _ _ _ _ _ [_, _, _, _, _, _, _] _ _
    refine V_goto (tgt := 157) (pc := 189) dX7_copy_189 (by decide) ?_
    exact V_cg (ih (by omega)) (by simp) rfl rfl
theorem lp_X7_copy {k p u r N : Nat} (hk : k < 4) (hu : u < 4) (hp : p + N ≤ 60) (hr : r + N ≤ 60) (h : post (some (vi_ 1)) (wo_ (wr_ σ 42 (fun c => σ 41 (60 * k + p + c)) N) 41 (60 * u + r) (fun c => (wr_ σ 42 (fun c => σ 41 (60 * k + p + c)) N) 42 c) N)) : ∀ i : Nat, i ≤ N → V_ l D mX7_copy (CM_ D mX7_copy post) 120 [some (vr_ 38), some (vi_ (k : Int)), some (vi_ (p : Int)), some (vi_ (u : Int)), some (vi_ (r : Int)), some (vi_ (N : Int)), some (vi_ (i : Int))] [] (wr_ σ 42 (fun c => σ 41 (60 * k + p + c)) i) := by
  refine up_ _ (fun i hi ih => ?_)
  refine V_iload (pc := 120) dX7_copy_120 rfl ?_
  refine V_iload (pc := 122) dX7_copy_122 rfl ?_
  refine V_icmp_ge (tgt := 154) (pc := 124) dX7_copy_124 (by decide) (by first | assumption | exact b2_rg | decide | (constructor <;> omega)) (by first | assumption | exact b2_rg | decide | (constructor <;> omega)) (fun h124 => ?_) (fun h124 => ?_)
  · skip
    refine V_iconst (pc := 154) dX7_copy_154 ?_
    refine V_istore (pc := 155) dX7_copy_155 (by decide) rfl ?_
    show V_ _ _ _ _ _ [_, _, _, _, _, _, _] _ _
    exact V_cg (lq_X7_copy hk hu hp hr h 0 (Nat.zero_le _)) (by simp) rfl (by rw [wo_0, show i = N by omega])
  · skip
    refine V_aload_n (pc := 127) dX7_copy_127 rfl rfl ?_
    refine V_getr (pc := 128) dX7_copy_128 fX7_19 rfl gg_38 rfl ?_
    refine V_iload (pc := 131) dX7_copy_131 rfl ?_
    refine V_aload_n (pc := 133) dX7_copy_133 rfl rfl ?_
    refine V_getr (pc := 134) dX7_copy_134 fX7_16 rfl gg_38 rfl ?_
    refine V_bipush (pc := 137) dX7_copy_137 (by decide) ?_
    refine V_iload_n (pc := 139) dX7_copy_139 rfl rfl ?_
    refine V_imul (pc := 140) dX7_copy_140 ?_
    refine V_iload_n (pc := 141) dX7_copy_141 rfl rfl ?_
    refine V_iadd (pc := 142) dX7_copy_142 ?_
    refine V_iload (pc := 143) dX7_copy_143 rfl ?_
    refine V_iadd (pc := 145) dX7_copy_145 ?_
    refine V_iald (pc := 146) dX7_copy_146 gg_41 (by have : ((240 : Nat) : Int) = 240 := rfl; omega) (by decide) (fun r146 => ?_)
    rw [show (60 * (k : Int) + (p : Int) + (i : Int)).toNat = 60 * k + p + i by omega, wr_nk (by decide)] at r146 ⊢
    refine V_iastN (pc := 147) dX7_copy_147 gg_42 (by omega) (by decide) (by first | assumption | exact b2_rg | decide | (constructor <;> omega)) ?_
    rw [wr_s rfl]
    refine V_iinc (pc := 148) dX7_copy_148 rfl (by decide) rfl ?_
    show V_ _ _ _ _ _ [_, _, _, _, _, _, _] _ _
    refine V_goto (tgt := 120) (pc := 151) dX7_copy_151 (by decide) ?_
    exact V_cg (ih (by omega)) (by simp) rfl rfl
theorem ct_X7_copy {s i t j n : Int} (hs : Rg_ s) (hi : Rg_ i) (ht : Rg_ t) (hj : Rg_ j) (hn : Rg_ n) (h : MR_ a σ) (hA2 : AW_ (nx_copy a s i t j n).2) (hK : ∀ τ, MR_ (nx_copy a s i t j n).2 τ → Gm_ σ τ → post (some (vi_ (nx_copy a s i t j n).1)) τ) : V_ l D mX7_copy (CM_ D mX7_copy post) 0 [some (vr_ 38), some (vi_ s), some (vi_ i), some (vi_ t), some (vi_ j), some (vi_ n), none] [] σ := by
  refine V_iload_n (pc := 0) dX7_copy_0 rfl rfl ?_
  refine V_callS (pc := 1) (as := [_]) (rest := []) dX7_copy_1 ⟨kX7_70, sX7_isSheet, by decide, by decide⟩ rfl rfl (Nat.le_of_ble_eq_true rfl) (Nat.le_of_ble_eq_true rfl) ?_
  refine ct_X7_isSheet hs ?_
  show V_ _ _ _ _ _ _ [_] _
  refine V_if_eq (tgt := 14) (pc := 4) dX7_copy_4 (by decide) b2_rg (fun h4 => ?_) (fun h4 => ?_)
  · skip
    rw [b2_0] at h4
    have e : nx_copy a s i t j n = (-2, a) := if_pos (Or.inl h4)
    refine V_bipush (pc := 14) dX7_copy_14 (by decide) ?_
    refine V_ireturn (pc := 16) dX7_copy_16 rfl rfl (fun hR => ?_)
    have h2 := hK σ (by rw [e]; exact h) Gm_.rf
    rw [e] at h2
    exact h2
  · skip
    rw [b2_n0] at h4
    refine V_iload_n (pc := 7) dX7_copy_7 rfl rfl ?_
    refine V_callS (pc := 8) (as := [_]) (rest := []) dX7_copy_8 ⟨kX7_70, sX7_isSheet, by decide, by decide⟩ rfl rfl (Nat.le_of_ble_eq_true rfl) (Nat.le_of_ble_eq_true rfl) ?_
    refine ct_X7_isSheet ht ?_
    show V_ _ _ _ _ _ _ [_] _
    refine V_if_ne (tgt := 17) (pc := 11) dX7_copy_11 (by decide) b2_rg (fun h11 => ?_) (fun h11 => ?_)
    · skip
      rw [b2_n0] at h11
      obtain ⟨k, rfl⟩ := i_nat h4.1
      have hk : k < 4 := by omega
      have hS := h.2.2.2.2.2 k hk
      obtain ⟨w1, w2⟩ := h.1.2.2.2.2.2.1 k hk
      obtain ⟨u, rfl⟩ := i_nat h11.1
      have hu : u < 4 := by omega
      have hS2 := h.2.2.2.2.2 u hu
      obtain ⟨y1, y2⟩ := h.1.2.2.2.2.2.1 u hu
      refine V_aload_n (pc := 17) dX7_copy_17 rfl rfl ?_
      refine V_getr (pc := 18) dX7_copy_18 fX7_7 rfl gg_38 rfl ?_
      refine V_iload_n (pc := 21) dX7_copy_21 rfl rfl ?_
      refine V_ialdN (pc := 22) dX7_copy_22 gg_39 (by omega) (by decide) (fun r22 => ?_)
      rw [hS.1] at r22 ⊢
      refine V_if_lt (tgt := 35) (pc := 23) dX7_copy_23 (by decide) (by first | assumption | exact b2_rg | decide | (constructor <;> omega)) (fun h23 => ?_) (fun h23 => ?_)
      · skip
        have e : nx_copy a (k : Int) i (u : Int) j n = fd2_ a 1 := by unfold nx_copy; rw [if_neg (by omega), show ((k : Int)).toNat = k from rfl, show ((u : Int)).toNat = u from rfl, if_pos (by omega)]
        refine V_aload_n (pc := 35) dX7_copy_35 rfl rfl ?_
        refine V_iconst (pc := 36) dX7_copy_36 ?_
        refine V_callV (pc := 37) (as := [_]) (rest := []) dX7_copy_37 ⟨kX7_76, iX7_finds, by decide, by decide⟩ rc_38 rfl rfl (Nat.le_of_ble_eq_true rfl) (Nat.le_of_ble_eq_true rfl) ?_
        refine ct_X7_finds (by decide) ?_
        show V_ _ _ _ _ _ _ [_] _
        refine V_ireturn (pc := 40) dX7_copy_40 rfl rfl (fun hR => ?_)
        rw [e] at hA2
        have h2 := hK _ (by rw [e]; exact h.found hA2) (Gm_.rf.ms (by decide))
        rw [e] at h2
        exact h2
      · skip
        refine V_aload_n (pc := 26) dX7_copy_26 rfl rfl ?_
        refine V_getr (pc := 27) dX7_copy_27 fX7_7 rfl gg_38 rfl ?_
        refine V_iload_n (pc := 30) dX7_copy_30 rfl rfl ?_
        refine V_ialdN (pc := 31) dX7_copy_31 gg_39 (by omega) (by decide) (fun r31 => ?_)
        rw [hS2.1] at r31 ⊢
        refine V_if_ge (tgt := 41) (pc := 32) dX7_copy_32 (by decide) (by first | assumption | exact b2_rg | decide | (constructor <;> omega)) (fun h32 => ?_) (fun h32 => ?_)
        · skip
          refine V_aload_n (pc := 41) dX7_copy_41 rfl rfl ?_
          refine V_getr (pc := 42) dX7_copy_42 fX7_7 rfl gg_38 rfl ?_
          refine V_iload_n (pc := 45) dX7_copy_45 rfl rfl ?_
          refine V_ialdN (pc := 46) dX7_copy_46 gg_39 (by omega) (by decide) (fun r46 => ?_)
          rw [hS.1] at r46 ⊢
          refine V_aload_n (pc := 47) dX7_copy_47 rfl rfl ?_
          refine V_getr (pc := 48) dX7_copy_48 fX7_7 rfl gg_38 rfl ?_
          refine V_iload_n (pc := 51) dX7_copy_51 rfl rfl ?_
          refine V_ialdN (pc := 52) dX7_copy_52 gg_39 (by omega) (by decide) (fun r52 => ?_)
          rw [hS2.1] at r52 ⊢
          refine V_icmp_eq (tgt := 62) (pc := 53) dX7_copy_53 (by decide) (by first | assumption | exact b2_rg | decide | (constructor <;> omega)) (by first | assumption | exact b2_rg | decide | (constructor <;> omega)) (fun h53 => ?_) (fun h53 => ?_)
          · skip
            refine V_iload_n (pc := 62) dX7_copy_62 rfl rfl ?_
            refine V_if_lt (tgt := 111) (pc := 63) dX7_copy_63 (by decide) (by first | assumption | exact b2_rg | decide | (constructor <;> omega)) (fun h63 => ?_) (fun h63 => ?_)
            · skip
              have e : nx_copy a (k : Int) i (u : Int) j n = fd2_ a 2 := by unfold nx_copy; rw [if_neg (by omega), show ((k : Int)).toNat = k from rfl, show ((u : Int)).toNat = u from rfl, if_neg (by omega), if_neg (by omega), if_pos (by first | exact Or.inl (fun z => by obtain ⟨z1, z2, z3, z4⟩ := z; omega) | exact Or.inr (fun z => by obtain ⟨z1, z2, z3, z4⟩ := z; omega))]
              refine V_aload_n (pc := 111) dX7_copy_111 rfl rfl ?_
              refine V_iconst (pc := 112) dX7_copy_112 ?_
              refine V_callV (pc := 113) (as := [_]) (rest := []) dX7_copy_113 ⟨kX7_76, iX7_finds, by decide, by decide⟩ rc_38 rfl rfl (Nat.le_of_ble_eq_true rfl) (Nat.le_of_ble_eq_true rfl) ?_
              refine ct_X7_finds (by decide) ?_
              show V_ _ _ _ _ _ _ [_] _
              refine V_ireturn (pc := 116) dX7_copy_116 rfl rfl (fun hR => ?_)
              rw [e] at hA2
              have h2 := hK _ (by rw [e]; exact h.found hA2) (Gm_.rf.ms (by decide))
              rw [e] at h2
              exact h2
            · skip
              refine V_iload (pc := 66) dX7_copy_66 rfl ?_
              refine V_if_lt (tgt := 111) (pc := 68) dX7_copy_68 (by decide) (by first | assumption | exact b2_rg | decide | (constructor <;> omega)) (fun h68 => ?_) (fun h68 => ?_)
              · skip
                have e : nx_copy a (k : Int) i (u : Int) j n = fd2_ a 2 := by unfold nx_copy; rw [if_neg (by omega), show ((k : Int)).toNat = k from rfl, show ((u : Int)).toNat = u from rfl, if_neg (by omega), if_neg (by omega), if_pos (by first | exact Or.inl (fun z => by obtain ⟨z1, z2, z3, z4⟩ := z; omega) | exact Or.inr (fun z => by obtain ⟨z1, z2, z3, z4⟩ := z; omega))]
                refine V_aload_n (pc := 111) dX7_copy_111 rfl rfl ?_
                refine V_iconst (pc := 112) dX7_copy_112 ?_
                refine V_callV (pc := 113) (as := [_]) (rest := []) dX7_copy_113 ⟨kX7_76, iX7_finds, by decide, by decide⟩ rc_38 rfl rfl (Nat.le_of_ble_eq_true rfl) (Nat.le_of_ble_eq_true rfl) ?_
                refine ct_X7_finds (by decide) ?_
                show V_ _ _ _ _ _ _ [_] _
                refine V_ireturn (pc := 116) dX7_copy_116 rfl rfl (fun hR => ?_)
                rw [e] at hA2
                have h2 := hK _ (by rw [e]; exact h.found hA2) (Gm_.rf.ms (by decide))
                rw [e] at h2
                exact h2
              · skip
                refine V_iload (pc := 71) dX7_copy_71 rfl ?_
                refine V_if_lt (tgt := 111) (pc := 73) dX7_copy_73 (by decide) (by first | assumption | exact b2_rg | decide | (constructor <;> omega)) (fun h73 => ?_) (fun h73 => ?_)
                · skip
                  have e : nx_copy a (k : Int) i (u : Int) j n = fd2_ a 2 := by unfold nx_copy; rw [if_neg (by omega), show ((k : Int)).toNat = k from rfl, show ((u : Int)).toNat = u from rfl, if_neg (by omega), if_neg (by omega), if_pos (by first | exact Or.inl (fun z => by obtain ⟨z1, z2, z3, z4⟩ := z; omega) | exact Or.inr (fun z => by obtain ⟨z1, z2, z3, z4⟩ := z; omega))]
                  refine V_aload_n (pc := 111) dX7_copy_111 rfl rfl ?_
                  refine V_iconst (pc := 112) dX7_copy_112 ?_
                  refine V_callV (pc := 113) (as := [_]) (rest := []) dX7_copy_113 ⟨kX7_76, iX7_finds, by decide, by decide⟩ rc_38 rfl rfl (Nat.le_of_ble_eq_true rfl) (Nat.le_of_ble_eq_true rfl) ?_
                  refine ct_X7_finds (by decide) ?_
                  show V_ _ _ _ _ _ _ [_] _
                  refine V_ireturn (pc := 116) dX7_copy_116 rfl rfl (fun hR => ?_)
                  rw [e] at hA2
                  have h2 := hK _ (by rw [e]; exact h.found hA2) (Gm_.rf.ms (by decide))
                  rw [e] at h2
                  exact h2
                · skip
                  refine V_iload_n (pc := 76) dX7_copy_76 rfl rfl ?_
                  refine V_i2l (pc := 77) dX7_copy_77 (by first | assumption | exact b2_rg | decide | (constructor <;> omega)) ?_
                  refine V_iload (pc := 78) dX7_copy_78 rfl ?_
                  refine V_i2l (pc := 80) dX7_copy_80 (by first | assumption | exact b2_rg | decide | (constructor <;> omega)) ?_
                  refine V_ladd (pc := 81) dX7_copy_81 ?_
                  refine V_aload_n (pc := 82) dX7_copy_82 rfl rfl ?_
                  refine V_getr (pc := 83) dX7_copy_83 fX7_13 rfl gg_38 rfl ?_
                  refine V_iload_n (pc := 86) dX7_copy_86 rfl rfl ?_
                  refine V_ialdN (pc := 87) dX7_copy_87 gg_40 (by omega) (by decide) (fun r87 => ?_)
                  rw [(hS.2 (by omega)).1] at r87 ⊢
                  refine V_i2l (pc := 88) dX7_copy_88 (by first | assumption | exact b2_rg | decide | (constructor <;> omega)) ?_
                  refine V_lcmp (pc := 89) dX7_copy_89 (by constructor <;> omega) (by constructor <;> omega) ?_
                  refine V_if_gt (tgt := 111) (pc := 90) dX7_copy_90 (by decide) lcmp_rg (fun h90 => ?_) (fun h90 => ?_)
                  · skip
                    rw [lcmp_gt] at h90
                    have e : nx_copy a (k : Int) i (u : Int) j n = fd2_ a 2 := by unfold nx_copy; rw [if_neg (by omega), show ((k : Int)).toNat = k from rfl, show ((u : Int)).toNat = u from rfl, if_neg (by omega), if_neg (by omega), if_pos (by first | exact Or.inl (fun z => by obtain ⟨z1, z2, z3, z4⟩ := z; omega) | exact Or.inr (fun z => by obtain ⟨z1, z2, z3, z4⟩ := z; omega))]
                    refine V_aload_n (pc := 111) dX7_copy_111 rfl rfl ?_
                    refine V_iconst (pc := 112) dX7_copy_112 ?_
                    refine V_callV (pc := 113) (as := [_]) (rest := []) dX7_copy_113 ⟨kX7_76, iX7_finds, by decide, by decide⟩ rc_38 rfl rfl (Nat.le_of_ble_eq_true rfl) (Nat.le_of_ble_eq_true rfl) ?_
                    refine ct_X7_finds (by decide) ?_
                    show V_ _ _ _ _ _ _ [_] _
                    refine V_ireturn (pc := 116) dX7_copy_116 rfl rfl (fun hR => ?_)
                    rw [e] at hA2
                    have h2 := hK _ (by rw [e]; exact h.found hA2) (Gm_.rf.ms (by decide))
                    rw [e] at h2
                    exact h2
                  · skip
                    have h90 := Int.not_lt.mpr h90
                    rw [lcmp_gt] at h90
                    refine V_iload (pc := 93) dX7_copy_93 rfl ?_
                    refine V_i2l (pc := 95) dX7_copy_95 (by first | assumption | exact b2_rg | decide | (constructor <;> omega)) ?_
                    refine V_iload (pc := 96) dX7_copy_96 rfl ?_
                    refine V_i2l (pc := 98) dX7_copy_98 (by first | assumption | exact b2_rg | decide | (constructor <;> omega)) ?_
                    refine V_ladd (pc := 99) dX7_copy_99 ?_
                    refine V_aload_n (pc := 100) dX7_copy_100 rfl rfl ?_
                    refine V_getr (pc := 101) dX7_copy_101 fX7_13 rfl gg_38 rfl ?_
                    refine V_iload_n (pc := 104) dX7_copy_104 rfl rfl ?_
                    refine V_ialdN (pc := 105) dX7_copy_105 gg_40 (by omega) (by decide) (fun r105 => ?_)
                    rw [(hS2.2 (by omega)).1] at r105 ⊢
                    refine V_i2l (pc := 106) dX7_copy_106 (by first | assumption | exact b2_rg | decide | (constructor <;> omega)) ?_
                    refine V_lcmp (pc := 107) dX7_copy_107 (by constructor <;> omega) (by constructor <;> omega) ?_
                    refine V_if_le (tgt := 117) (pc := 108) dX7_copy_108 (by decide) lcmp_rg (fun h108 => ?_) (fun h108 => ?_)
                    · skip
                      have h108 := Int.not_lt.mpr h108
                      rw [lcmp_gt] at h108
                      obtain ⟨p, rfl⟩ := i_nat h63
                      obtain ⟨r, rfl⟩ := i_nat h68
                      obtain ⟨N, rfl⟩ := i_nat h73
                      have e : nx_copy a (k : Int) (p : Int) (u : Int) (r : Int) (N : Int) = (1, mc_ a (13 + k) (13 + u) p r N) := by
                        unfold nx_copy
                        rw [if_neg (by omega), show ((k : Int)).toNat = k from rfl, show ((u : Int)).toNat = u from rfl, if_neg (by omega), if_neg (by omega), if_neg (fun z => z.elim (fun z => z ⟨by omega, by omega, by omega, by omega⟩) (fun z => z ⟨by omega, by omega, by omega, by omega⟩))]
                        rfl
                      rw [e] at hA2
                      refine V_iconst (pc := 117) dX7_copy_117 ?_
                      refine V_istore (pc := 118) dX7_copy_118 (by decide) rfl ?_
                      show V_ _ _ _ _ _ [_, _, _, _, _, _, _] _ _
                      have hM2 : MR_ (mc_ a (13 + k) (13 + u) p r N) (wo_ (wr_ σ 42 (fun c => σ 41 (60 * k + p + c)) N) 41 (60 * u + r) (fun c => (wr_ σ 42 (fun c => σ 41 (60 * k + p + c)) N) 42 c) N) := by
                        refine h.sht hA2 (fun q q1 q2 q3 q4 => by rw [wo_rw q3, wr_rw q4]) (fun q hq => mc_rw (by omega)) (fun z hz => ?_)
                        obtain ⟨x1, x2⟩ := h.2.2.2.2.2 z hz
                        obtain ⟨v1, v2⟩ := h.1.2.2.2.2.2.1 z hz
                        rw [wo_rw (by decide), wo_rw (by decide), wr_rw (by decide), wr_rw (by decide), mc_rw (show 11 ≠ 13 + u by omega), mc_rw (show 12 ≠ 13 + u by omega)]
                        refine ⟨x1, fun g => ⟨(x2 g).1, fun q hq => ?_⟩⟩
                        by_cases c : z = u
                        · subst c
                          by_cases c2 : r ≤ q ∧ q < r + N
                          · obtain ⟨d, rfl⟩ : ∃ d, q = r + d := ⟨q - r, by omega⟩
                            rw [← Nat.add_assoc, wo_in (by omega)]
                            show wr_ _ _ _ _ 42 d = _
                            rw [wr_in (by omega)]
                            show σ 41 (60 * k + p + d) = _
                            rw [Nat.add_assoc, (hS.2 (by omega)).2 (p + d) (by omega)]
                            unfold mc_
                            rw [if_pos ⟨rfl, by omega, by omega⟩, show r + d - r = d by omega]
                          · rw [wo_out (by omega), wr_nk (by decide), (x2 g).2 q hq]
                            unfold mc_
                            rw [if_neg (fun z => c2 z.2)]
                        · rw [wo_out (by omega), wr_nk (by decide), (x2 g).2 q hq, mc_rw (by omega)]
                      have h2 := hK _ (by rw [e]; exact hM2) (fun q hq => by rw [wo_rw (by omega), wr_rw (by omega)])
                      rw [e] at h2
                      exact V_cg (lp_X7_copy hk hu (by omega) (by omega) h2 0 (Nat.zero_le _)) (by simp) rfl wr_0.symm
                    · skip
                      rw [lcmp_gt] at h108
                      have e : nx_copy a (k : Int) i (u : Int) j n = fd2_ a 2 := by unfold nx_copy; rw [if_neg (by omega), show ((k : Int)).toNat = k from rfl, show ((u : Int)).toNat = u from rfl, if_neg (by omega), if_neg (by omega), if_pos (by first | exact Or.inl (fun z => by obtain ⟨z1, z2, z3, z4⟩ := z; omega) | exact Or.inr (fun z => by obtain ⟨z1, z2, z3, z4⟩ := z; omega))]
                      refine V_aload_n (pc := 111) dX7_copy_111 rfl rfl ?_
                      refine V_iconst (pc := 112) dX7_copy_112 ?_
                      refine V_callV (pc := 113) (as := [_]) (rest := []) dX7_copy_113 ⟨kX7_76, iX7_finds, by decide, by decide⟩ rc_38 rfl rfl (Nat.le_of_ble_eq_true rfl) (Nat.le_of_ble_eq_true rfl) ?_
                      refine ct_X7_finds (by decide) ?_
                      show V_ _ _ _ _ _ _ [_] _
                      refine V_ireturn (pc := 116) dX7_copy_116 rfl rfl (fun hR => ?_)
                      rw [e] at hA2
                      have h2 := hK _ (by rw [e]; exact h.found hA2) (Gm_.rf.ms (by decide))
                      rw [e] at h2
                      exact h2
          · skip
            have e : nx_copy a (k : Int) i (u : Int) j n = fd2_ a 4 := by unfold nx_copy; rw [if_neg (by omega), show ((k : Int)).toNat = k from rfl, show ((u : Int)).toNat = u from rfl, if_neg (by omega), if_pos (by omega)]
            refine V_aload_n (pc := 56) dX7_copy_56 rfl rfl ?_
            refine V_iconst (pc := 57) dX7_copy_57 ?_
            refine V_callV (pc := 58) (as := [_]) (rest := []) dX7_copy_58 ⟨kX7_76, iX7_finds, by decide, by decide⟩ rc_38 rfl rfl (Nat.le_of_ble_eq_true rfl) (Nat.le_of_ble_eq_true rfl) ?_
            refine ct_X7_finds (by decide) ?_
            show V_ _ _ _ _ _ _ [_] _
            refine V_ireturn (pc := 61) dX7_copy_61 rfl rfl (fun hR => ?_)
            rw [e] at hA2
            have h2 := hK _ (by rw [e]; exact h.found hA2) (Gm_.rf.ms (by decide))
            rw [e] at h2
            exact h2
        · skip
          have e : nx_copy a (k : Int) i (u : Int) j n = fd2_ a 1 := by unfold nx_copy; rw [if_neg (by omega), show ((k : Int)).toNat = k from rfl, show ((u : Int)).toNat = u from rfl, if_pos (by omega)]
          refine V_aload_n (pc := 35) dX7_copy_35 rfl rfl ?_
          refine V_iconst (pc := 36) dX7_copy_36 ?_
          refine V_callV (pc := 37) (as := [_]) (rest := []) dX7_copy_37 ⟨kX7_76, iX7_finds, by decide, by decide⟩ rc_38 rfl rfl (Nat.le_of_ble_eq_true rfl) (Nat.le_of_ble_eq_true rfl) ?_
          refine ct_X7_finds (by decide) ?_
          show V_ _ _ _ _ _ _ [_] _
          refine V_ireturn (pc := 40) dX7_copy_40 rfl rfl (fun hR => ?_)
          rw [e] at hA2
          have h2 := hK _ (by rw [e]; exact h.found hA2) (Gm_.rf.ms (by decide))
          rw [e] at h2
          exact h2
    · skip
      rw [b2_0] at h11
      have e : nx_copy a s i t j n = (-2, a) := if_pos (Or.inr h11)
      refine V_bipush (pc := 14) dX7_copy_14 (by decide) ?_
      refine V_ireturn (pc := 16) dX7_copy_16 rfl rfl (fun hR => ?_)
      have h2 := hK σ (by rw [e]; exact h) Gm_.rf
      rw [e] at h2
      exact h2
theorem lp_X7_write {k Y N : Nat} {ρ : Mm_} (hk : k < 4) (hN : (N : Int) ≤ vv_ a 3 0 ∧ N ≤ 60) (hf : 0 ≤ a 11 k ∧ a 11 k ≤ 2) (h11 : ρ 39 k = a 11 k) (hR : RD_ (vv_ a) (li_ (vv_ a) (uu_ a) (Y + 1)) ρ) (hN8 : N ≤ 8) (h : post (some (vi_ (N : Int))) (wo_ ρ 41 (60 * k) (fun q => cu_ (a 11 k) (li_ (vv_ a) (uu_ a) (Y + 1) 0 q)) N)) : ∀ i : Nat, i ≤ N → V_ l D mX7_write (CM_ D mX7_write post) 60 [some (vr_ 38), some (vi_ (Y : Int)), some (vi_ (k : Int)), some (vi_ (N : Int)), some (vi_ (i : Int))] [] (wo_ ρ 41 (60 * k) (fun q => cu_ (a 11 k) (li_ (vv_ a) (uu_ a) (Y + 1) 0 q)) i) := by
  refine up_ _ (fun i hi ih => ?_)
  refine V_iload (pc := 60) dX7_write_60 rfl ?_
  refine V_iload_n (pc := 62) dX7_write_62 rfl rfl ?_
  refine V_icmp_ge (tgt := 100) (pc := 63) dX7_write_63 (by decide) (by first | assumption | exact cu_rg r89 | exact b2_rg | decide | (constructor <;> omega)) (by first | assumption | exact cu_rg r89 | exact b2_rg | decide | (constructor <;> omega)) (fun h63 => ?_) (fun h63 => ?_)
  · skip
    refine V_iload_n (pc := 100) dX7_write_100 rfl rfl ?_
    refine V_ireturn (pc := 101) dX7_write_101 rfl rfl (fun hR => ?_)
    rw [show i = N by omega]; exact h
  · skip
    refine V_aload_n (pc := 66) dX7_write_66 rfl rfl ?_
    refine V_getr (pc := 67) dX7_write_67 fX7_16 rfl gg_38 rfl ?_
    refine V_bipush (pc := 70) dX7_write_70 (by decide) ?_
    refine V_iload_n (pc := 72) dX7_write_72 rfl rfl ?_
    refine V_imul (pc := 73) dX7_write_73 ?_
    refine V_iload (pc := 74) dX7_write_74 rfl ?_
    refine V_iadd (pc := 76) dX7_write_76 ?_
    refine V_aload_n (pc := 77) dX7_write_77 rfl rfl ?_
    refine V_getr (pc := 78) dX7_write_78 fX7_7 rfl gg_38 rfl ?_
    refine V_iload_n (pc := 81) dX7_write_81 rfl rfl ?_
    refine V_ialdN (pc := 82) dX7_write_82 gg_39 (by omega) (by decide) (fun r82 => ?_)
    rw [wo_rw (by decide), h11] at r82 ⊢
    refine V_aload_n (pc := 83) dX7_write_83 rfl rfl ?_
    refine V_getr (pc := 84) dX7_write_84 fX7_43 rfl gg_38 rfl ?_
    refine V_iload (pc := 87) dX7_write_87 rfl ?_
    refine V_ialdN (pc := 89) dX7_write_89 gg_50 (by omega) (by decide) (fun r89 => ?_)
    rw [wo_rw (by decide), hR.1 i (by omega)] at r89 ⊢
    refine V_callS (pc := 90) (as := [_, _]) (rest := [_, _]) dX7_write_90 ⟨kX7_84, sX7_cut, by decide, by decide⟩ rfl rfl (Nat.le_of_ble_eq_true rfl) (Nat.le_of_ble_eq_true rfl) ?_
    refine ct_X7_cut hf r89 ?_
    show V_ _ _ _ _ _ _ [_, _, _] _
    refine V_iast (pc := 93) dX7_write_93 gg_41 (by have : ((240 : Nat) : Int) = 240 := rfl; omega) (by decide) (by first | assumption | exact cu_rg r89 | exact b2_rg | decide | (constructor <;> omega)) ?_
    rw [show (60 * (k : Int) + (i : Int)).toNat = 60 * k + i by omega, wo_s rfl]
    refine V_iinc (pc := 94) dX7_write_94 rfl (by decide) rfl ?_
    show V_ _ _ _ _ _ [_, _, _, _, _] _ _
    refine V_goto (tgt := 60) (pc := 97) dX7_write_97 (by decide) ?_
    exact V_cg (ih (by omega)) (by simp) rfl rfl
theorem ct_X7_write {y s : Int} (hy : Rg_ y) (hs : Rg_ s) (h : MR_ a σ) (hA2 : AW_ (nx_write a y s).2) (hK : ∀ τ, MR_ (nx_write a y s).2 τ → Gm_ σ τ → post (some (vi_ (nx_write a y s).1)) τ) : V_ l D mX7_write (CM_ D mX7_write post) 0 [some (vr_ 38), some (vi_ y), some (vi_ s), none, none] [] σ := by
  refine V_iload_n (pc := 0) dX7_write_0 rfl rfl ?_
  refine V_callS (pc := 1) (as := [_]) (rest := []) dX7_write_1 ⟨kX7_164, sX7_isYear, by decide, by decide⟩ rfl rfl (Nat.le_of_ble_eq_true rfl) (Nat.le_of_ble_eq_true rfl) ?_
  refine ct_X7_isYear hy ?_
  show V_ _ _ _ _ _ _ [_] _
  refine V_if_eq (tgt := 14) (pc := 4) dX7_write_4 (by decide) b2_rg (fun h4 => ?_) (fun h4 => ?_)
  · skip
    rw [b2_0] at h4
    have e : nx_write a y s = (-2, a) := if_pos (Or.inl h4)
    refine V_bipush (pc := 14) dX7_write_14 (by decide) ?_
    refine V_ireturn (pc := 16) dX7_write_16 rfl rfl (fun hR => ?_)
    have h2 := hK σ (by rw [e]; exact h) Gm_.rf
    rw [e] at h2
    exact h2
  · skip
    rw [b2_n0] at h4
    refine V_iload_n (pc := 7) dX7_write_7 rfl rfl ?_
    refine V_callS (pc := 8) (as := [_]) (rest := []) dX7_write_8 ⟨kX7_70, sX7_isSheet, by decide, by decide⟩ rfl rfl (Nat.le_of_ble_eq_true rfl) (Nat.le_of_ble_eq_true rfl) ?_
    refine ct_X7_isSheet hs ?_
    show V_ _ _ _ _ _ _ [_] _
    refine V_if_ne (tgt := 17) (pc := 11) dX7_write_11 (by decide) b2_rg (fun h11 => ?_) (fun h11 => ?_)
    · skip
      rw [b2_n0] at h11
      obtain ⟨k, rfl⟩ := i_nat h11.1
      have hk : k < 4 := by omega
      have hS := h.2.2.2.2.2 k hk
      obtain ⟨w1, w2⟩ := h.1.2.2.2.2.2.1 k hk
      refine V_aload_n (pc := 17) dX7_write_17 rfl rfl ?_
      refine V_getr (pc := 18) dX7_write_18 fX7_7 rfl gg_38 rfl ?_
      refine V_iload_n (pc := 21) dX7_write_21 rfl rfl ?_
      refine V_ialdN (pc := 22) dX7_write_22 gg_39 (by omega) (by decide) (fun r22 => ?_)
      rw [hS.1] at r22 ⊢
      refine V_if_ge (tgt := 32) (pc := 23) dX7_write_23 (by decide) (by first | assumption | exact b2_rg | decide | (constructor <;> omega)) (fun h23 => ?_) (fun h23 => ?_)
      · skip
        refine V_aload_n (pc := 32) dX7_write_32 rfl rfl ?_
        refine V_callV (pc := 33) (as := []) (rest := []) dX7_write_33 ⟨kX7_124, iX7_reads, by decide, by decide⟩ rc_38 rfl rfl (Nat.le_of_ble_eq_true rfl) (Nat.le_of_ble_eq_true rfl) ?_
        refine ct_X7_reads h (fun τ hM hQ hP => ?_)
        have hsd := hQ.2.2.1.2.2
        have hL : LM_ (uu_ a) τ := hQ.2.2.2.1
        have hW := vv_WF h.1
        have wn := hW.n
        show V_ _ _ _ _ _ _ [] _
        refine V_aload_n (pc := 36) dX7_write_36 rfl rfl ?_
        refine V_iload_n (pc := 37) dX7_write_37 rfl rfl ?_
        refine V_callV (pc := 38) (as := [_]) (rest := []) dX7_write_38 ⟨kX7_196, iX7_lives, by decide, by decide⟩ rc_38 rfl rfl (Nat.le_of_ble_eq_true rfl) (Nat.le_of_ble_eq_true rfl) ?_
        obtain ⟨Y, rfl⟩ := i_nat h4.1
        refine ct_X7_lives hW h.1.2.2.2.1 (by omega) hM hL hsd (fun ρ hB1 hB2 => ?_)
        have hQ2 : MR_ a ρ := hQ.pf hB2.pf
        have hM2 := hM.f4 hB2
        have hS2 := hQ2.2.2.2.2.2 k hk
        show V_ _ _ _ _ _ _ [] _
        refine V_aload_n (pc := 41) dX7_write_41 rfl rfl ?_
        refine V_getr (pc := 42) dX7_write_42 fX7_13 rfl gg_38 rfl ?_
        refine V_iload_n (pc := 45) dX7_write_45 rfl rfl ?_
        refine V_ialdN (pc := 46) dX7_write_46 gg_40 (by omega) (by decide) (fun r46 => ?_)
        rw [(hS2.2 (by omega)).1] at r46 ⊢
        refine V_aload_n (pc := 47) dX7_write_47 rfl rfl ?_
        refine V_getr (pc := 48) dX7_write_48 fX7_28 rfl gg_38 rfl ?_
        refine V_iconst (pc := 51) dX7_write_51 ?_
        refine V_iald (pc := 52) dX7_write_52 gg_45 (by decide) (by decide) (fun r52 => ?_)
        rw [show ρ 45 (1 : Int).toNat = vv_ a 3 0 from hM2.1.2.1] at r52 ⊢
        refine V_callS (pc := 53) (as := [_, _]) (rest := []) dX7_write_53 ⟨kX7_186, sX7_lesser, by decide, by decide⟩ rfl rfl (Nat.le_of_ble_eq_true rfl) (Nat.le_of_ble_eq_true rfl) ?_
        refine ct_X7_lesser (by constructor <;> omega) (by constructor <;> omega) ?_
        rw [show (if a 12 k < vv_ a 3 0 then a 12 k else vv_ a 3 0) = mw_ a k from by unfold mw_; split <;> split <;> omega]
        have hm : 0 ≤ mw_ a k ∧ mw_ a k ≤ a 12 k ∧ mw_ a k ≤ vv_ a 3 0 := by unfold mw_; split <;> omega
        obtain ⟨N, hN⟩ := i_nat hm.1
        rw [hN]
        show V_ _ _ _ _ _ _ [_] _
        refine V_istore_n (pc := 56) dX7_write_56 rfl (by decide) rfl ?_
        show V_ _ _ _ _ _ [_, _, _, _, _] _ _
        refine V_iconst (pc := 57) dX7_write_57 ?_
        refine V_istore (pc := 58) dX7_write_58 (by decide) rfl ?_
        show V_ _ _ _ _ _ [_, _, _, _, _] _ _
        have e : nx_write a (Y : Int) (k : Int) = ((N : Int), wr_ a (13 + k) (fun q => cu_ (a 11 k) (li_ (vv_ a) (uu_ a) (Y + 1) 0 q)) N) := by
          unfold nx_write
          rw [if_neg (by omega), show ((k : Int)).toNat = k from rfl, if_neg (by omega), hN]
          rfl
        rw [e] at hA2
        have hM3 : MR_ (wr_ a (13 + k) (fun q => cu_ (a 11 k) (li_ (vv_ a) (uu_ a) (Y + 1) 0 q)) N) (wo_ ρ 41 (60 * k) (fun q => cu_ (a 11 k) (li_ (vv_ a) (uu_ a) (Y + 1) 0 q)) N) := by
          refine hQ2.sht hA2 (fun q q1 q2 q3 q4 => wo_rw q3) (fun q hq => wr_rw (by omega)) (fun z hz => ?_)
          obtain ⟨x1, x2⟩ := hQ2.2.2.2.2.2 z hz
          obtain ⟨v1, v2⟩ := h.1.2.2.2.2.2.1 z hz
          rw [wo_rw (by decide), wo_rw (by decide), wr_rw (show 11 ≠ 13 + k by omega), wr_rw (show 12 ≠ 13 + k by omega)]
          refine ⟨x1, fun g => ⟨(x2 g).1, fun q hq => ?_⟩⟩
          by_cases c : z = k
          · subst c
            by_cases c2 : q < N
            · rw [wo_in c2, wr_in c2]
            · rw [wo_out (by omega), (x2 g).2 q hq]
              unfold wr_
              rw [if_neg (by omega)]
          · rw [wo_out (by omega), (x2 g).2 q hq, wr_nk (by omega)]
        have h2 := hK _ (by rw [e]; exact hM3) ((hP.tr hB2.pf).gm.tr (fun q hq => wo_rw (by omega)))
        rw [e] at h2
        exact V_cg (lp_X7_write hk (by omega) (by omega) hS2.1 hB1 (by omega) h2 0 (Nat.zero_le _)) (by simp) rfl wo_0.symm
      · skip
        have e : nx_write a y (k : Int) = fd2_ a 1 := by unfold nx_write; rw [if_neg (by omega), show ((k : Int)).toNat = k from rfl, if_pos (by omega)]
        refine V_aload_n (pc := 26) dX7_write_26 rfl rfl ?_
        refine V_iconst (pc := 27) dX7_write_27 ?_
        refine V_callV (pc := 28) (as := [_]) (rest := []) dX7_write_28 ⟨kX7_76, iX7_finds, by decide, by decide⟩ rc_38 rfl rfl (Nat.le_of_ble_eq_true rfl) (Nat.le_of_ble_eq_true rfl) ?_
        refine ct_X7_finds (by decide) ?_
        show V_ _ _ _ _ _ _ [_] _
        refine V_ireturn (pc := 31) dX7_write_31 rfl rfl (fun hR => ?_)
        rw [e] at hA2
        have h2 := hK _ (by rw [e]; exact h.found hA2) (Gm_.rf.ms (by decide))
        rw [e] at h2
        exact h2
    · skip
      rw [b2_0] at h11
      have e : nx_write a y s = (-2, a) := if_pos (Or.inr h11)
      refine V_bipush (pc := 14) dX7_write_14 (by decide) ?_
      refine V_ireturn (pc := 16) dX7_write_16 rfl rfl (fun hR => ?_)
      have h2 := hK σ (by rw [e]; exact h) Gm_.rf
      rw [e] at h2
      exact h2
theorem lp_X7_read {k : Nat} (hk : k < 4) (hK : ∀ τ, MR_ (rd_ k 13 0 a).2 τ → Gm_ σ τ → post (some (vi_ ((rd_ k 13 0 a).1 : Int))) τ) : ∀ n c : Nat, ∀ b τ : Mm_, MR_ b τ → Gm_ σ τ → ¬ b 11 k = -1 → rd_ k n c b = rd_ k 13 0 a → 12 - b 5 0 < (n : Int) → c + n ≤ 13 → V_ l D mX7_read (CM_ D mX7_read post) 29 [some (vr_ 38), some (vi_ (k : Int)), some (vi_ (c : Int)), some (vi_ 1)] [] τ := by
  intro n
  induction n with
  | zero => intro c b τ h hF hl hr hn hcn; have := h.1.2.2.2.1.1; exact absurd hn (by have e : uu_ b 0 0 = b 5 0 := rfl; rw [e] at this; omega)
  | succ n ih =>
    intro c b τ h hF hl hr hn hcn
    have hA := h.1
    have hS := h.2.2.2.2.2 k hk
    obtain ⟨w1, w2⟩ := hA.2.2.2.2.2.1 k hk
    have hLW : 0 ≤ b 5 0 ∧ b 5 0 ≤ 12 := hA.2.2.2.1.1
    obtain ⟨q, hq⟩ := i_nat hLW.1
    have zS := hS.2 hl
    rw [rd_] at hr
    refine V_iload_n (pc := 29) dX7_read_29 rfl rfl ?_
    refine V_if_eq (tgt := 103) (pc := 30) dX7_read_30 (by decide) (by first | assumption | exact b2_rg | decide | (constructor <;> omega)) (fun h30 => by exact absurd h30 (by decide)) (fun h30 => ?_)
    refine V_iconst (pc := 33) dX7_read_33 ?_
    refine V_iload_n (pc := 34) dX7_read_34 rfl rfl ?_
    refine V_imul (pc := 35) dX7_read_35 ?_
    refine V_iconst (pc := 36) dX7_read_36 ?_
    refine V_iadd (pc := 37) dX7_read_37 ?_
    refine V_aload_n (pc := 38) dX7_read_38 rfl rfl ?_
    refine V_getr (pc := 39) dX7_read_39 fX7_13 rfl gg_38 rfl ?_
    refine V_iload_n (pc := 42) dX7_read_42 rfl rfl ?_
    refine V_ialdN (pc := 43) dX7_read_43 gg_40 (by omega) (by decide) (fun r43 => ?_)
    rw [zS.1] at r43 ⊢
    refine V_icmp_gt (tgt := 103) (pc := 44) dX7_read_44 (by decide) (by first | assumption | exact b2_rg | decide | (constructor <;> omega)) (by first | assumption | exact b2_rg | decide | (constructor <;> omega)) (fun h44 => ?_) (fun h44 => ?_)
    · skip
      rw [if_neg (by rw [b2_f (fun z => absurd z.1 (by omega))]; decide)] at hr
      refine V_iload_n (pc := 103) dX7_read_103 rfl rfl ?_
      refine V_ireturn (pc := 104) dX7_read_104 rfl rfl (fun hR => ?_)
      have h2 := hK τ (by rw [← hr]; exact h) hF
      rw [← hr] at h2
      exact h2
    · skip
      refine V_aload_n (pc := 47) dX7_read_47 rfl rfl ?_
      refine V_aload_n (pc := 48) dX7_read_48 rfl rfl ?_
      refine V_getr (pc := 49) dX7_read_49 fX7_16 rfl gg_38 rfl ?_
      refine V_bipush (pc := 52) dX7_read_52 (by decide) ?_
      refine V_iload_n (pc := 54) dX7_read_54 rfl rfl ?_
      refine V_imul (pc := 55) dX7_read_55 ?_
      refine V_iconst (pc := 56) dX7_read_56 ?_
      refine V_iload_n (pc := 57) dX7_read_57 rfl rfl ?_
      refine V_imul (pc := 58) dX7_read_58 ?_
      refine V_iadd (pc := 59) dX7_read_59 ?_
      refine V_iald (pc := 60) dX7_read_60 gg_41 (by have : ((240 : Nat) : Int) = 240 := rfl; omega) (by decide) (fun r60 => ?_)
      rw [show (60 * (k : Int) + 2 * (c : Int)).toNat = 60 * k + 2 * c by omega, zS.2 (2 * c) (by omega)] at r60 ⊢
      refine V_aload_n (pc := 61) dX7_read_61 rfl rfl ?_
      refine V_getr (pc := 62) dX7_read_62 fX7_16 rfl gg_38 rfl ?_
      refine V_bipush (pc := 65) dX7_read_65 (by decide) ?_
      refine V_iload_n (pc := 67) dX7_read_67 rfl rfl ?_
      refine V_imul (pc := 68) dX7_read_68 ?_
      refine V_iconst (pc := 69) dX7_read_69 ?_
      refine V_iload_n (pc := 70) dX7_read_70 rfl rfl ?_
      refine V_imul (pc := 71) dX7_read_71 ?_
      refine V_iadd (pc := 72) dX7_read_72 ?_
      refine V_iconst (pc := 73) dX7_read_73 ?_
      refine V_iadd (pc := 74) dX7_read_74 ?_
      refine V_iald (pc := 75) dX7_read_75 gg_41 (by have : ((240 : Nat) : Int) = 240 := rfl; omega) (by decide) (fun r75 => ?_)
      rw [show (60 * (k : Int) + 2 * (c : Int) + 1).toNat = 60 * k + (2 * c + 1) by omega, zS.2 (2 * c + 1) (by omega)] at r75 ⊢
      refine V_callV (pc := 76) (as := [_, _]) (rest := []) dX7_read_76 ⟨kX7_172, iX7_loss, by decide, by decide⟩ rc_38 rfl rfl (Nat.le_of_ble_eq_true rfl) (Nat.le_of_ble_eq_true rfl) ?_
      by_cases hrs : rs_ b k c
      · skip
        rw [if_pos (b2_t hrs)] at hr
        obtain ⟨g1, g2, g3, g4⟩ := hrs
        have e : nx_loss b (b (13 + k) (2 * c)) (b (13 + k) (2 * c + 1)) = (b 5 0 + 1, ap_ b (b (13 + k) (2 * c)) (b (13 + k) (2 * c + 1))) := by unfold nx_loss; rw [if_neg (fun z => z ⟨g3, g4⟩), if_neg (by omega)]
        refine ct_X7_loss r60 r75 h (by rw [e]; exact hA.app g3 g4 hq (by omega)) (fun τ2 hB1 hB2 => ?_)
        rw [e] at hB1 ⊢
        have hB1 : MR_ (ap_ b (b (13 + k) (2 * c)) (b (13 + k) (2 * c + 1))) τ2 := hB1
        show V_ _ _ _ _ _ _ [_] _
        refine V_if_lt (tgt := 86) (pc := 79) dX7_read_79 (by decide) (by first | assumption | exact b2_rg | decide | (constructor <;> omega)) (fun h79 => by exfalso; omega) (fun h79 => ?_)
        refine V_iconst (pc := 82) dX7_read_82 ?_
        refine V_goto (tgt := 87) (pc := 83) dX7_read_83 (by decide) ?_
        refine V_istore_n (pc := 87) dX7_read_87 rfl (by decide) rfl ?_
        show V_ _ _ _ _ _ [_, _, _, _] _ _
        refine V_iload_n (pc := 88) dX7_read_88 rfl rfl ?_
        refine V_iload_n (pc := 89) dX7_read_89 rfl rfl ?_
        refine V_if_eq (tgt := 97) (pc := 90) dX7_read_90 (by decide) (by first | assumption | exact b2_rg | decide | (constructor <;> omega)) (fun h90 => by exact absurd h90 (by decide)) (fun h90 => ?_)
        refine V_iconst (pc := 93) dX7_read_93 ?_
        refine V_goto (tgt := 98) (pc := 94) dX7_read_94 (by decide) ?_
        refine V_iadd (pc := 98) dX7_read_98 ?_
        refine V_istore_n (pc := 99) dX7_read_99 rfl (by decide) rfl ?_
        show V_ _ _ _ _ _ [_, _, _, _] _ _
        refine V_goto (tgt := 29) (pc := 100) dX7_read_100 (by decide) ?_
        have hb11 : ap_ b (b (13 + k) (2 * c)) (b (13 + k) (2 * c + 1)) 11 = b 11 := ap_rw (by decide)
        have hb5 : ap_ b (b (13 + k) (2 * c)) (b (13 + k) (2 * c + 1)) 5 0 = b 5 0 + 1 := by unfold ap_; rw [ms_eq]
        exact V_cg (ih (c + 1) _ _ hB1 (hF.tr hB2) (by rw [hb11]; exact hl) hr (by rw [hb5]; omega) (by omega)) (by simp) rfl rfl
      · skip
        rw [if_neg (by rw [b2_f hrs]; decide)] at hr
        have e : ∃ z, z < 0 ∧ -10 ≤ z ∧ nx_loss b (b (13 + k) (2 * c)) (b (13 + k) (2 * c + 1)) = (z, b) := by
          unfold nx_loss
          split
          · exact ⟨-2, by decide, by decide, rfl⟩
          · rename_i g1
            split
            · exact ⟨-4, by decide, by decide, rfl⟩
            · rename_i g2
              exfalso
              have g3 := Classical.not_not.mp g1
              exact hrs ⟨by omega, by omega, g3⟩
        obtain ⟨z, hz1, hz2, e⟩ := e
        refine ct_X7_loss r60 r75 h (by rw [e]; exact hA) (fun τ2 hB1 hB2 => ?_)
        rw [e] at hB1 ⊢
        have hB1 : MR_ b τ2 := hB1
        show V_ _ _ _ _ _ _ [_] _
        refine V_if_lt (tgt := 86) (pc := 79) dX7_read_79 (by decide) (by first | assumption | exact b2_rg | decide | (constructor <;> omega)) (fun h79 => ?_) (fun h79 => by exfalso; omega)
        refine V_iconst (pc := 86) dX7_read_86 ?_
        refine V_istore_n (pc := 87) dX7_read_87 rfl (by decide) rfl ?_
        show V_ _ _ _ _ _ [_, _, _, _] _ _
        refine V_iload_n (pc := 88) dX7_read_88 rfl rfl ?_
        refine V_iload_n (pc := 89) dX7_read_89 rfl rfl ?_
        refine V_if_eq (tgt := 97) (pc := 90) dX7_read_90 (by decide) (by first | assumption | exact b2_rg | decide | (constructor <;> omega)) (fun h90 => ?_) (fun h90 => by exact absurd h90 (by decide))
        refine V_iconst (pc := 97) dX7_read_97 ?_
        refine V_iadd (pc := 98) dX7_read_98 ?_
        refine V_istore_n (pc := 99) dX7_read_99 rfl (by decide) rfl ?_
        show V_ _ _ _ _ _ [_, _, _, _] _ _
        refine V_goto (tgt := 29) (pc := 100) dX7_read_100 (by decide) ?_
        refine V_iload_n (pc := 29) dX7_read_29 rfl rfl ?_
        refine V_if_eq (tgt := 103) (pc := 30) dX7_read_30 (by decide) (by first | assumption | exact b2_rg | decide | (constructor <;> omega)) (fun h30 => ?_) (fun h30 => by exact absurd h30 (by decide))
        refine V_iload_n (pc := 103) dX7_read_103 rfl rfl ?_
        refine V_ireturn (pc := 104) dX7_read_104 rfl rfl (fun hR => ?_)
        have h2 := hK τ2 (by rw [← hr]; exact hB1) (hF.tr hB2)
        rw [← hr] at h2
        exact rt_ (by simp) h2
theorem ct_X7_read {s : Int} (hs : Rg_ s) (h : MR_ a σ) (hA2 : AW_ (nx_read a s).2) (hK : ∀ τ, MR_ (nx_read a s).2 τ → Gm_ σ τ → post (some (vi_ (nx_read a s).1)) τ) : V_ l D mX7_read (CM_ D mX7_read post) 0 [some (vr_ 38), some (vi_ s), none, none] [] σ := by
  refine V_iload_n (pc := 0) dX7_read_0 rfl rfl ?_
  refine V_callS (pc := 1) (as := [_]) (rest := []) dX7_read_1 ⟨kX7_70, sX7_isSheet, by decide, by decide⟩ rfl rfl (Nat.le_of_ble_eq_true rfl) (Nat.le_of_ble_eq_true rfl) ?_
  refine ct_X7_isSheet hs ?_
  show V_ _ _ _ _ _ _ [_] _
  refine V_if_ne (tgt := 10) (pc := 4) dX7_read_4 (by decide) b2_rg (fun h4 => ?_) (fun h4 => ?_)
  · skip
    rw [b2_n0] at h4
    obtain ⟨k, rfl⟩ := i_nat h4.1
    have hk : k < 4 := by omega
    have hS := h.2.2.2.2.2 k hk
    obtain ⟨w1, w2⟩ := h.1.2.2.2.2.2.1 k hk
    refine V_aload_n (pc := 10) dX7_read_10 rfl rfl ?_
    refine V_getr (pc := 11) dX7_read_11 fX7_7 rfl gg_38 rfl ?_
    refine V_iload_n (pc := 14) dX7_read_14 rfl rfl ?_
    refine V_ialdN (pc := 15) dX7_read_15 gg_39 (by omega) (by decide) (fun r15 => ?_)
    rw [hS.1] at r15 ⊢
    refine V_if_ge (tgt := 25) (pc := 16) dX7_read_16 (by decide) (by first | assumption | exact b2_rg | decide | (constructor <;> omega)) (fun h16 => ?_) (fun h16 => ?_)
    · skip
      have e : nx_read a (k : Int) = (((rd_ k 13 0 a).1 : Int), (rd_ k 13 0 a).2) := by unfold nx_read; rw [if_neg (by omega), show ((k : Int)).toNat = k from rfl, if_neg (by omega)]
      rw [e] at hK
      refine V_iconst (pc := 25) dX7_read_25 ?_
      refine V_istore_n (pc := 26) dX7_read_26 rfl (by decide) rfl ?_
      show V_ _ _ _ _ _ [_, _, _, _] _ _
      refine V_iconst (pc := 27) dX7_read_27 ?_
      refine V_istore_n (pc := 28) dX7_read_28 rfl (by decide) rfl ?_
      show V_ _ _ _ _ _ [_, _, _, _] _ _
      exact V_cg (lp_X7_read hk hK 13 0 a σ h Gm_.rf (by omega) rfl (by have e : uu_ a 0 0 = a 5 0 := rfl; have := h.1.2.2.2.1.1; rw [e] at this; omega) (by decide)) (by simp) rfl rfl
    · skip
      have e : nx_read a (k : Int) = fd2_ a 1 := by unfold nx_read; rw [if_neg (by omega), show ((k : Int)).toNat = k from rfl, if_pos (by omega)]
      refine V_aload_n (pc := 19) dX7_read_19 rfl rfl ?_
      refine V_iconst (pc := 20) dX7_read_20 ?_
      refine V_callV (pc := 21) (as := [_]) (rest := []) dX7_read_21 ⟨kX7_76, iX7_finds, by decide, by decide⟩ rc_38 rfl rfl (Nat.le_of_ble_eq_true rfl) (Nat.le_of_ble_eq_true rfl) ?_
      refine ct_X7_finds (by decide) ?_
      show V_ _ _ _ _ _ _ [_] _
      refine V_ireturn (pc := 24) dX7_read_24 rfl rfl (fun hR => ?_)
      rw [e] at hA2
      have h2 := hK _ (by rw [e]; exact h.found hA2) (Gm_.rf.ms (by decide))
      rw [e] at h2
      exact h2
  · skip
    rw [b2_0] at h4
    have e : nx_read a s = (-2, a) := if_pos h4
    refine V_bipush (pc := 7) dX7_read_7 (by decide) ?_
    refine V_ireturn (pc := 9) dX7_read_9 rfl rfl (fun hR => ?_)
    have h2 := hK σ (by rw [e]; exact h) Gm_.rf
    rw [e] at h2
    exact h2
theorem ct_X7_count {w : Int} (hw : Rg_ w) (h : MR_ a σ) (hK : ∀ τ, MR_ a τ → HM_ (vv_ a) τ → Gm_ σ τ → post (some (vi_ (an_count a w))) τ) : V_ l D mX7_count (CM_ D mX7_count post) 0 [some (vr_ 38), some (vi_ w)] [] σ := by
  by_cases c0 : w = 0
  · subst c0
    refine V_aload_n (pc := 0) dX7_count_0 rfl rfl ?_
    refine V_callV (pc := 1) (as := []) (rest := []) dX7_count_1 ⟨kX7_124, iX7_reads, by decide, by decide⟩ rc_38 rfl rfl (Nat.le_of_ble_eq_true rfl) (Nat.le_of_ble_eq_true rfl) ?_
    refine ct_X7_reads h (fun τ hM hQ hP => ?_)
    show V_ _ _ _ _ _ _ [] _
    refine V_iload_n (pc := 4) dX7_count_4 rfl rfl ?_
    refine V_tableIn (tgt := 56) (off := 51) (pc := 5) dX7_count_5 (by decide) (by decide) (by decide) (by decide) (by decide) ?_
    refine V_aload_n (pc := 56) dX7_count_56 rfl rfl ?_
    refine V_getr (pc := 57) dX7_count_57 fX7_28 rfl gg_38 rfl ?_
    refine V_iload_n (pc := 60) dX7_count_60 rfl rfl ?_
    refine V_iald (pc := 61) dX7_count_61 gg_45 (by decide) (by decide) (fun r61 => ?_)
    rw [show τ 45 (0 : Int).toNat = vv_ a 0 0 from hM.1.1] at r61 ⊢
    refine V_ireturn (pc := 62) dX7_count_62 rfl rfl (fun hR => ?_)
    exact rt_ (show _ = an_count a 0 by unfold an_count; rfl) (hK _ hQ hM hP.gm)
  by_cases c1 : w = 1
  · subst c1
    refine V_aload_n (pc := 0) dX7_count_0 rfl rfl ?_
    refine V_callV (pc := 1) (as := []) (rest := []) dX7_count_1 ⟨kX7_124, iX7_reads, by decide, by decide⟩ rc_38 rfl rfl (Nat.le_of_ble_eq_true rfl) (Nat.le_of_ble_eq_true rfl) ?_
    refine ct_X7_reads h (fun τ hM hQ hP => ?_)
    show V_ _ _ _ _ _ _ [] _
    refine V_iload_n (pc := 4) dX7_count_4 rfl rfl ?_
    refine V_tableIn (tgt := 56) (off := 51) (pc := 5) dX7_count_5 (by decide) (by decide) (by decide) (by decide) (by decide) ?_
    refine V_aload_n (pc := 56) dX7_count_56 rfl rfl ?_
    refine V_getr (pc := 57) dX7_count_57 fX7_28 rfl gg_38 rfl ?_
    refine V_iload_n (pc := 60) dX7_count_60 rfl rfl ?_
    refine V_iald (pc := 61) dX7_count_61 gg_45 (by decide) (by decide) (fun r61 => ?_)
    rw [show τ 45 (1 : Int).toNat = vv_ a 3 0 from hM.1.2.1] at r61 ⊢
    refine V_ireturn (pc := 62) dX7_count_62 rfl rfl (fun hR => ?_)
    exact rt_ (show _ = an_count a 1 by unfold an_count; rfl) (hK _ hQ hM hP.gm)
  by_cases c2 : w = 2
  · subst c2
    refine V_aload_n (pc := 0) dX7_count_0 rfl rfl ?_
    refine V_callV (pc := 1) (as := []) (rest := []) dX7_count_1 ⟨kX7_124, iX7_reads, by decide, by decide⟩ rc_38 rfl rfl (Nat.le_of_ble_eq_true rfl) (Nat.le_of_ble_eq_true rfl) ?_
    refine ct_X7_reads h (fun τ hM hQ hP => ?_)
    show V_ _ _ _ _ _ _ [] _
    refine V_iload_n (pc := 4) dX7_count_4 rfl rfl ?_
    refine V_tableIn (tgt := 56) (off := 51) (pc := 5) dX7_count_5 (by decide) (by decide) (by decide) (by decide) (by decide) ?_
    refine V_aload_n (pc := 56) dX7_count_56 rfl rfl ?_
    refine V_getr (pc := 57) dX7_count_57 fX7_28 rfl gg_38 rfl ?_
    refine V_iload_n (pc := 60) dX7_count_60 rfl rfl ?_
    refine V_iald (pc := 61) dX7_count_61 gg_45 (by decide) (by decide) (fun r61 => ?_)
    rw [show τ 45 (2 : Int).toNat = vv_ a 7 0 from hM.1.2.2] at r61 ⊢
    refine V_ireturn (pc := 62) dX7_count_62 rfl rfl (fun hR => ?_)
    exact rt_ (show _ = an_count a 2 by unfold an_count; rfl) (hK _ hQ hM hP.gm)
  by_cases c3 : w = 3
  · subst c3
    refine V_aload_n (pc := 0) dX7_count_0 rfl rfl ?_
    refine V_callV (pc := 1) (as := []) (rest := []) dX7_count_1 ⟨kX7_124, iX7_reads, by decide, by decide⟩ rc_38 rfl rfl (Nat.le_of_ble_eq_true rfl) (Nat.le_of_ble_eq_true rfl) ?_
    refine ct_X7_reads h (fun τ hM hQ hP => ?_)
    show V_ _ _ _ _ _ _ [] _
    refine V_iload_n (pc := 4) dX7_count_4 rfl rfl ?_
    refine V_tableIn (tgt := 63) (off := 58) (pc := 5) dX7_count_5 (by decide) (by decide) (by decide) (by decide) (by decide) ?_
    refine V_aload_n (pc := 63) dX7_count_63 rfl rfl ?_
    refine V_getr (pc := 64) dX7_count_64 fX7_25 rfl gg_38 rfl ?_
    refine V_iload_n (pc := 67) dX7_count_67 rfl rfl ?_
    refine V_iconst (pc := 68) dX7_count_68 ?_
    refine V_isub (pc := 69) dX7_count_69 ?_
    refine V_iald (pc := 70) dX7_count_70 gg_44 (by decide) (by decide) (fun r70 => ?_)
    rw [show τ 44 ((3 : Int) - 3).toNat = a 0 0 from hQ.2.1.1.1] at r70 ⊢
    refine V_ireturn (pc := 71) dX7_count_71 rfl rfl (fun hR => ?_)
    exact rt_ (show _ = an_count a 3 by unfold an_count; rfl) (hK _ hQ hM hP.gm)
  by_cases c4 : w = 4
  · subst c4
    refine V_aload_n (pc := 0) dX7_count_0 rfl rfl ?_
    refine V_callV (pc := 1) (as := []) (rest := []) dX7_count_1 ⟨kX7_124, iX7_reads, by decide, by decide⟩ rc_38 rfl rfl (Nat.le_of_ble_eq_true rfl) (Nat.le_of_ble_eq_true rfl) ?_
    refine ct_X7_reads h (fun τ hM hQ hP => ?_)
    show V_ _ _ _ _ _ _ [] _
    refine V_iload_n (pc := 4) dX7_count_4 rfl rfl ?_
    refine V_tableIn (tgt := 63) (off := 58) (pc := 5) dX7_count_5 (by decide) (by decide) (by decide) (by decide) (by decide) ?_
    refine V_aload_n (pc := 63) dX7_count_63 rfl rfl ?_
    refine V_getr (pc := 64) dX7_count_64 fX7_25 rfl gg_38 rfl ?_
    refine V_iload_n (pc := 67) dX7_count_67 rfl rfl ?_
    refine V_iconst (pc := 68) dX7_count_68 ?_
    refine V_isub (pc := 69) dX7_count_69 ?_
    refine V_iald (pc := 70) dX7_count_70 gg_44 (by decide) (by decide) (fun r70 => ?_)
    rw [show τ 44 ((4 : Int) - 3).toNat = a 0 1 from hQ.2.1.2.1.1] at r70 ⊢
    refine V_ireturn (pc := 71) dX7_count_71 rfl rfl (fun hR => ?_)
    exact rt_ (show _ = an_count a 4 by unfold an_count; rfl) (hK _ hQ hM hP.gm)
  by_cases c5 : w = 5
  · subst c5
    refine V_aload_n (pc := 0) dX7_count_0 rfl rfl ?_
    refine V_callV (pc := 1) (as := []) (rest := []) dX7_count_1 ⟨kX7_124, iX7_reads, by decide, by decide⟩ rc_38 rfl rfl (Nat.le_of_ble_eq_true rfl) (Nat.le_of_ble_eq_true rfl) ?_
    refine ct_X7_reads h (fun τ hM hQ hP => ?_)
    show V_ _ _ _ _ _ _ [] _
    refine V_iload_n (pc := 4) dX7_count_4 rfl rfl ?_
    refine V_tableIn (tgt := 63) (off := 58) (pc := 5) dX7_count_5 (by decide) (by decide) (by decide) (by decide) (by decide) ?_
    refine V_aload_n (pc := 63) dX7_count_63 rfl rfl ?_
    refine V_getr (pc := 64) dX7_count_64 fX7_25 rfl gg_38 rfl ?_
    refine V_iload_n (pc := 67) dX7_count_67 rfl rfl ?_
    refine V_iconst (pc := 68) dX7_count_68 ?_
    refine V_isub (pc := 69) dX7_count_69 ?_
    refine V_iald (pc := 70) dX7_count_70 gg_44 (by decide) (by decide) (fun r70 => ?_)
    rw [show τ 44 ((5 : Int) - 3).toNat = a 0 2 from hQ.2.1.2.2.1] at r70 ⊢
    refine V_ireturn (pc := 71) dX7_count_71 rfl rfl (fun hR => ?_)
    exact rt_ (show _ = an_count a 5 by unfold an_count; rfl) (hK _ hQ hM hP.gm)
  by_cases c6 : w = 6
  · subst c6
    refine V_aload_n (pc := 0) dX7_count_0 rfl rfl ?_
    refine V_callV (pc := 1) (as := []) (rest := []) dX7_count_1 ⟨kX7_124, iX7_reads, by decide, by decide⟩ rc_38 rfl rfl (Nat.le_of_ble_eq_true rfl) (Nat.le_of_ble_eq_true rfl) ?_
    refine ct_X7_reads h (fun τ hM hQ hP => ?_)
    show V_ _ _ _ _ _ _ [] _
    refine V_iload_n (pc := 4) dX7_count_4 rfl rfl ?_
    refine V_tableIn (tgt := 72) (off := 67) (pc := 5) dX7_count_5 (by decide) (by decide) (by decide) (by decide) (by decide) ?_
    refine V_aload_n (pc := 72) dX7_count_72 rfl rfl ?_
    refine V_geti (pc := 73) dX7_count_73 fX7_169 rfl gg_38 rfl (fun r73 => ?_)
    rw [show τ 38 13 = a 5 0 from hQ.2.2.2.1.1] at r73 ⊢
    refine V_ireturn (pc := 76) dX7_count_76 rfl rfl (fun hR => ?_)
    exact rt_ (show _ = an_count a 6 by unfold an_count; rfl) (hK _ hQ hM hP.gm)
  by_cases c7 : w = 7
  · subst c7
    refine V_aload_n (pc := 0) dX7_count_0 rfl rfl ?_
    refine V_callV (pc := 1) (as := []) (rest := []) dX7_count_1 ⟨kX7_124, iX7_reads, by decide, by decide⟩ rc_38 rfl rfl (Nat.le_of_ble_eq_true rfl) (Nat.le_of_ble_eq_true rfl) ?_
    refine ct_X7_reads h (fun τ hM hQ hP => ?_)
    show V_ _ _ _ _ _ _ [] _
    refine V_iload_n (pc := 4) dX7_count_4 rfl rfl ?_
    refine V_tableIn (tgt := 77) (off := 72) (pc := 5) dX7_count_5 (by decide) (by decide) (by decide) (by decide) (by decide) ?_
    refine V_aload_n (pc := 77) dX7_count_77 rfl rfl ?_
    refine V_geti (pc := 78) dX7_count_78 fX7_236 rfl gg_38 rfl (fun r78 => ?_)
    rw [show τ 38 22 = a 8 0 from hQ.2.2.2.2.1.1] at r78 ⊢
    refine V_ireturn (pc := 81) dX7_count_81 rfl rfl (fun hR => ?_)
    exact rt_ (show _ = an_count a 7 by unfold an_count; rfl) (hK _ hQ hM hP.gm)
  by_cases c8 : w = 8
  · subst c8
    refine V_aload_n (pc := 0) dX7_count_0 rfl rfl ?_
    refine V_callV (pc := 1) (as := []) (rest := []) dX7_count_1 ⟨kX7_124, iX7_reads, by decide, by decide⟩ rc_38 rfl rfl (Nat.le_of_ble_eq_true rfl) (Nat.le_of_ble_eq_true rfl) ?_
    refine ct_X7_reads h (fun τ hM hQ hP => ?_)
    show V_ _ _ _ _ _ _ [] _
    refine V_iload_n (pc := 4) dX7_count_4 rfl rfl ?_
    refine V_tableIn (tgt := 82) (off := 77) (pc := 5) dX7_count_5 (by decide) (by decide) (by decide) (by decide) (by decide) ?_
    refine V_aload_n (pc := 82) dX7_count_82 rfl rfl ?_
    refine V_geti (pc := 83) dX7_count_83 fX7_65 rfl gg_38 rfl (fun r83 => ?_)
    rw [show τ 38 4 = a 17 0 from hQ.2.2.1.2.1] at r83 ⊢
    refine V_ireturn (pc := 86) dX7_count_86 rfl rfl (fun hR => ?_)
    exact rt_ (show _ = an_count a 8 by unfold an_count; rfl) (hK _ hQ hM hP.gm)
  refine V_aload_n (pc := 0) dX7_count_0 rfl rfl ?_
  refine V_callV (pc := 1) (as := []) (rest := []) dX7_count_1 ⟨kX7_124, iX7_reads, by decide, by decide⟩ rc_38 rfl rfl (Nat.le_of_ble_eq_true rfl) (Nat.le_of_ble_eq_true rfl) ?_
  refine ct_X7_reads h (fun τ hM hQ hP => ?_)
  show V_ _ _ _ _ _ _ [] _
  refine V_iload_n (pc := 4) dX7_count_4 rfl rfl ?_
  refine V_tableOut (tgt := 87) (pc := 5) dX7_count_5 (by first | assumption | exact b2_rg | decide | (constructor <;> omega)) (by omega) (by decide) ?_
  refine V_bipush (pc := 87) dX7_count_87 (by decide) ?_
  refine V_ireturn (pc := 89) dX7_count_89 rfl rfl (fun hR => ?_)
  exact rt_ (show _ = an_count a w by unfold an_count; (repeat' split) <;> first | rfl | (exfalso; omega)) (hK _ hQ hM hP.gm)
end
