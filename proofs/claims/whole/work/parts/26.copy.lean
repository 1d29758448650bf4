/-! ## class DrownedNames: copy, write, read -/
section
variable {l : Launch} {D : Dt_} {a σ : Mm_} {post : Option Av_ → Mm_ → Prop}
theorem ct_X6_copy_11_11 {i j n : Int} (hi : Rg_ i) (hj : Rg_ j) (hn : Rg_ n) (h : CR_ a σ) (hK : ∀ σ1, CR_ (nx_copy a 0 i 0 j n).2 σ1 → Fm_ σ σ1 → post (some (vi_ (nx_copy a 0 i 0 j n).1)) σ1) : V_ l D mX6_copy (CM_ D mX6_copy post) 0 [some (vr_ 0), some (vi_ 0), some (vi_ i), some (vi_ 0), some (vi_ j), some (vi_ n), none, none] [] σ := by
  have hA := h.1.1
  have hW := vv_WF hA
  have hC := h.2.1
  have hD := h.2.2
  have ws := hW.s
  have wn := hW.n
  have wl := hW.l
  have hS : S1_ a σ 0 11 := h.s1 (s := 0) (by decide)
  have hS2 : S1_ a σ 0 11 := h.s1 (s := 0) (by decide)
  have hz := hA.2.2.2.2.2.1 0 (by decide)
  have hz2 := hA.2.2.2.2.2.1 0 (by decide)
  have hRa := hA.2.2.2.2.2.2.2
  have cs : σ 11 1 = 0 ↔ ¬ a 11 0 = -1 := ⟨fun z c => by rw [hS.1 c] at z; exact absurd z (by decide), fun c => (hS.2 c).1⟩
  have ct : σ 11 1 = 0 ↔ ¬ a 11 0 = -1 := ⟨fun z c => by rw [hS2.1 c] at z; exact absurd z (by decide), fun c => (hS2.2 c).1⟩
  have ex : nx_copy a 0 i 0 j n = if a 11 0 = -1 ∨ a 11 0 = -1 then fd2_ a 1 else if a 11 0 ≠ a 11 0 then fd2_ a 4 else if ¬ rg_ i n (a 12 0) ∨ ¬ rg_ j n (a 12 0) then fd2_ a 2 else (1, mc_ a 13 13 i.toNat j.toNat n.toNat) := by unfold nx_copy; rw [if_neg (by omega)]; rfl
  refine V_aload_n (pc := 0) dX6_copy_0 rfl rfl ?_
  refine V_iload_n (pc := 1) dX6_copy_1 rfl rfl ?_
  refine V_callV (pc := 2) (as := [_]) (rest := []) dX6_copy_2 ⟨kX6_151, iX6_sheetAt, by decide, by decide⟩ rc_0 rfl rfl (Nat.le_of_ble_eq_true rfl) (Nat.le_of_ble_eq_true rfl) ?_
  refine ct_X6_sheetAt_11 ?_
  show V_ _ _ _ _ _ _ [_] _
  refine V_astore (pc := 5) dX6_copy_5 (by decide) rfl ?_
  show V_ _ _ _ _ _ [_, _, _, _, _, _, _, _] _ _
  refine V_aload_n (pc := 7) dX6_copy_7 rfl rfl ?_
  refine V_iload_n (pc := 8) dX6_copy_8 rfl rfl ?_
  refine V_callV (pc := 9) (as := [_]) (rest := []) dX6_copy_9 ⟨kX6_151, iX6_sheetAt, by decide, by decide⟩ rc_0 rfl rfl (Nat.le_of_ble_eq_true rfl) (Nat.le_of_ble_eq_true rfl) ?_
  refine ct_X6_sheetAt_11 ?_
  show V_ _ _ _ _ _ _ [_] _
  refine V_astore (pc := 12) dX6_copy_12 (by decide) rfl ?_
  show V_ _ _ _ _ _ [_, _, _, _, _, _, _, _] _ _
  refine V_aload (pc := 14) dX6_copy_14 rfl ?_
  refine V_ifnull (tgt := 24) (pc := 16) dX6_copy_16 (by decide) (fun z => by cases z) (fun _ _ => ?_)
  refine V_aload (pc := 19) dX6_copy_19 rfl ?_
  refine V_ifnonnull (tgt := 27) (pc := 21) dX6_copy_21 (by decide) (fun _ _ => ?_) (fun z => by cases z)
  refine V_aload (pc := 27) dX6_copy_27 rfl ?_
  refine V_geti (pc := 29) dX6_copy_29 fX6_155 rfl gg_11 rfl (fun r29 => ?_)
  refine V_if_ne (tgt := 43) (pc := 32) dX6_copy_32 (by decide) (by first | assumption | decide | omega | exact ba_rg hR | exact b2_rg) (fun h32 => ?_) (fun h32 => ?_)
  · skip
    have e : nx_copy a 0 i 0 j n = fd2_ a 1 := by rw [ex, if_pos (Or.inl (Decidable.byContradiction (fun z => h32 (cs.mpr z))))]
    refine V_aload_n (pc := 43) dX6_copy_43 rfl rfl ?_
    refine V_iconst (pc := 44) dX6_copy_44 ?_
    refine V_callV (pc := 45) (as := [_]) (rest := []) dX6_copy_45 ⟨kX6_159, iX6_found, by decide, by decide⟩ rc_0 rfl rfl (Nat.le_of_ble_eq_true rfl) (Nat.le_of_ble_eq_true rfl) ?_
    refine ct_X6_found (by decide) ?_
    show V_ _ _ _ _ _ _ [_] _
    refine V_ireturn (pc := 48) dX6_copy_48 rfl rfl (fun hR => ?_)
    have h2 := hK _ (by rw [e]; exact h.found (by omega)) (Fm_.rf.ms (by decide))
    rw [e] at h2
    exact h2
  · skip
    have c1 := cs.mp h32
    refine V_aload (pc := 35) dX6_copy_35 rfl ?_
    refine V_geti (pc := 37) dX6_copy_37 fX6_155 rfl gg_11 rfl (fun r37 => ?_)
    refine V_if_eq (tgt := 49) (pc := 40) dX6_copy_40 (by decide) (by first | assumption | decide | omega | exact ba_rg hR | exact b2_rg) (fun h40 => ?_) (fun h40 => ?_)
    · skip
      have c2 := ct.mp h40
      refine V_aload (pc := 49) dX6_copy_49 rfl ?_
      refine V_geti (pc := 51) dX6_copy_51 fX6_264 rfl gg_11 rfl (fun r51 => ?_)
      rw [(hS.2 c1).2.1] at r51 ⊢
      refine V_aload (pc := 54) dX6_copy_54 rfl ?_
      refine V_geti (pc := 56) dX6_copy_56 fX6_264 rfl gg_11 rfl (fun r56 => ?_)
      rw [(hS2.2 c2).2.1] at r56 ⊢
      refine V_icmp_eq (tgt := 68) (pc := 59) dX6_copy_59 (by decide) (by constructor <;> omega) (by constructor <;> omega) (fun h59 => ?_) (fun h59 => ?_)
      · skip
        refine V_aload (pc := 68) dX6_copy_68 rfl ?_
        refine V_iload_n (pc := 70) dX6_copy_70 rfl rfl ?_
        refine V_iload (pc := 71) dX6_copy_71 rfl ?_
        refine V_callV (pc := 73) (as := [_, _]) (rest := []) dX6_copy_73 ⟨kX6_267, iX4_hasRange, by decide, by decide⟩ rc_11 rfl rfl (Nat.le_of_ble_eq_true rfl) (Nat.le_of_ble_eq_true rfl) ?_
        refine ct_X4_hasRange_11 hi hn (hS.2 c1).2.2.1 (by omega) ?_
        show V_ _ _ _ _ _ _ [_] _
        refine V_if_eq (tgt := 91) (pc := 76) dX6_copy_76 (by decide) b2_rg (fun h76 => ?_) (fun h76 => ?_)
        · skip
          rw [b2_0] at h76
          have e : nx_copy a 0 i 0 j n = fd2_ a 2 := by rw [ex, if_neg (fun z => z.elim c1 c2), if_neg (fun z => z h59), if_pos (Or.inl h76)]
          refine V_aload_n (pc := 91) dX6_copy_91 rfl rfl ?_
          refine V_iconst (pc := 92) dX6_copy_92 ?_
          refine V_callV (pc := 93) (as := [_]) (rest := []) dX6_copy_93 ⟨kX6_159, iX6_found, by decide, by decide⟩ rc_0 rfl rfl (Nat.le_of_ble_eq_true rfl) (Nat.le_of_ble_eq_true rfl) ?_
          refine ct_X6_found (by decide) ?_
          show V_ _ _ _ _ _ _ [_] _
          refine V_ireturn (pc := 96) dX6_copy_96 rfl rfl (fun hR => ?_)
          have h2 := hK _ (by rw [e]; exact h.found (by omega)) (Fm_.rf.ms (by decide))
          rw [e] at h2
          exact h2
        · skip
          rw [b2_n0] at h76
          refine V_aload (pc := 79) dX6_copy_79 rfl ?_
          refine V_iload (pc := 81) dX6_copy_81 rfl ?_
          refine V_iload (pc := 83) dX6_copy_83 rfl ?_
          refine V_callV (pc := 85) (as := [_, _]) (rest := []) dX6_copy_85 ⟨kX6_267, iX4_hasRange, by decide, by decide⟩ rc_11 rfl rfl (Nat.le_of_ble_eq_true rfl) (Nat.le_of_ble_eq_true rfl) ?_
          refine ct_X4_hasRange_11 hj hn (hS2.2 c2).2.2.1 (by omega) ?_
          show V_ _ _ _ _ _ _ [_] _
          refine V_if_ne (tgt := 97) (pc := 88) dX6_copy_88 (by decide) b2_rg (fun h88 => ?_) (fun h88 => ?_)
          · skip
            rw [b2_n0] at h88
            have e : nx_copy a 0 i 0 j n = (1, mc_ a 13 13 i.toNat j.toNat n.toNat) := by rw [ex, if_neg (fun z => z.elim c1 c2), if_neg (fun z => z h59), if_neg (fun z => z.elim (fun z => z h76) (fun z => z h88))]
            refine V_aload (pc := 97) dX6_copy_97 rfl ?_
            refine V_getr (pc := 99) dX6_copy_99 fX6_164 rfl gg_11 rfl ?_
            refine V_iload_n (pc := 102) dX6_copy_102 rfl rfl ?_
            refine V_aload (pc := 103) dX6_copy_103 rfl ?_
            refine V_getr (pc := 105) dX6_copy_105 fX6_164 rfl gg_11 rfl ?_
            refine V_iload (pc := 108) dX6_copy_108 rfl ?_
            refine V_iload (pc := 110) dX6_copy_110 rfl ?_
            refine V_copy (pc := 112) dX6_copy_112 kX6_270 ⟨by decide, by first | decide | exact Nat.le_of_ble_eq_true rfl⟩ gg_12 gg_12 (by have : ((60 : Nat) : Int) = 60 := rfl; omega) (by decide) (by decide) ?_
            refine V_iconst (pc := 115) dX6_copy_115 ?_
            refine V_ireturn (pc := 116) dX6_copy_116 rfl rfl (fun hR => ?_)
            have hcr : CR_ (mc_ a 13 13 i.toNat j.toNat n.toNat) (mc_ σ 12 12 i.toNat j.toNat n.toNat) := by
              refine h.sht (s := 0) (k := 11) rfl (by decide) ⟨fun q hq => by rw [mc_rw (by decide), mc_rw (by decide)]; exact hA.2.2.2.2.2.1 q hq, hRa.mc⟩ (fun q q1 q2 => mc_rw q2) (fun q q1 q2 q3 => mc_rw q3) (fun q hq => by rw [mc_rw (by decide), mc_rw (by decide)]; exact ⟨rfl, rfl⟩) ⟨fun z => ?_, fun z => ⟨?_, ?_, ?_, fun q hq => ?_⟩⟩
              · rw [mc_rw (by decide)] at z; exact absurd z c2
              · rw [mc_rw (by decide)]; exact (hS2.2 c2).1
              · rw [mc_rw (by decide), mc_rw (by decide)]; exact (hS2.2 c2).2.1
              · rw [mc_rw (by decide), mc_rw (by decide)]; exact (hS2.2 c2).2.2.1
              · rw [mc_rw (by decide)] at hq
                show mc_ σ 12 12 i.toNat j.toNat n.toNat 12 q = mc_ a 13 13 i.toNat j.toNat n.toNat 13 q
                unfold mc_
                by_cases c : j.toNat ≤ q ∧ q < j.toNat + n.toNat
                · rw [if_pos ⟨rfl, c⟩, if_pos ⟨rfl, c⟩]
                  exact (hS.2 c1).2.2.2 _ (by omega)
                · rw [if_neg (fun z => c z.2), if_neg (fun z => c z.2)]
                  exact (hS2.2 c2).2.2.2 q hq
            have h2 := hK _ (by rw [e]; exact hcr) (fun q hq => mc_rw (by omega))
            rw [e] at h2
            exact h2
          · skip
            rw [b2_0] at h88
            have e : nx_copy a 0 i 0 j n = fd2_ a 2 := by rw [ex, if_neg (fun z => z.elim c1 c2), if_neg (fun z => z h59), if_pos (Or.inr h88)]
            refine V_aload_n (pc := 91) dX6_copy_91 rfl rfl ?_
            refine V_iconst (pc := 92) dX6_copy_92 ?_
            refine V_callV (pc := 93) (as := [_]) (rest := []) dX6_copy_93 ⟨kX6_159, iX6_found, by decide, by decide⟩ rc_0 rfl rfl (Nat.le_of_ble_eq_true rfl) (Nat.le_of_ble_eq_true rfl) ?_
            refine ct_X6_found (by decide) ?_
            show V_ _ _ _ _ _ _ [_] _
            refine V_ireturn (pc := 96) dX6_copy_96 rfl rfl (fun hR => ?_)
            have h2 := hK _ (by rw [e]; exact h.found (by omega)) (Fm_.rf.ms (by decide))
            rw [e] at h2
            exact h2
      · skip
        have e : nx_copy a 0 i 0 j n = fd2_ a 4 := by rw [ex, if_neg (fun z => z.elim c1 c2), if_pos h59]
        refine V_aload_n (pc := 62) dX6_copy_62 rfl rfl ?_
        refine V_iconst (pc := 63) dX6_copy_63 ?_
        refine V_callV (pc := 64) (as := [_]) (rest := []) dX6_copy_64 ⟨kX6_159, iX6_found, by decide, by decide⟩ rc_0 rfl rfl (Nat.le_of_ble_eq_true rfl) (Nat.le_of_ble_eq_true rfl) ?_
        refine ct_X6_found (by decide) ?_
        show V_ _ _ _ _ _ _ [_] _
        refine V_ireturn (pc := 67) dX6_copy_67 rfl rfl (fun hR => ?_)
        have h2 := hK _ (by rw [e]; exact h.found (by omega)) (Fm_.rf.ms (by decide))
        rw [e] at h2
        exact h2
    · skip
      have e : nx_copy a 0 i 0 j n = fd2_ a 1 := by rw [ex, if_pos (Or.inr (Decidable.byContradiction (fun z => h40 (ct.mpr z))))]
      refine V_aload_n (pc := 43) dX6_copy_43 rfl rfl ?_
      refine V_iconst (pc := 44) dX6_copy_44 ?_
      refine V_callV (pc := 45) (as := [_]) (rest := []) dX6_copy_45 ⟨kX6_159, iX6_found, by decide, by decide⟩ rc_0 rfl rfl (Nat.le_of_ble_eq_true rfl) (Nat.le_of_ble_eq_true rfl) ?_
      refine ct_X6_found (by decide) ?_
      show V_ _ _ _ _ _ _ [_] _
      refine V_ireturn (pc := 48) dX6_copy_48 rfl rfl (fun hR => ?_)
      have h2 := hK _ (by rw [e]; exact h.found (by omega)) (Fm_.rf.ms (by decide))
      rw [e] at h2
      exact h2
theorem ct_X6_copy_11_13 {i j n : Int} (hi : Rg_ i) (hj : Rg_ j) (hn : Rg_ n) (h : CR_ a σ) (hK : ∀ σ1, CR_ (nx_copy a 0 i 1 j n).2 σ1 → Fm_ σ σ1 → post (some (vi_ (nx_copy a 0 i 1 j n).1)) σ1) : V_ l D mX6_copy (CM_ D mX6_copy post) 0 [some (vr_ 0), some (vi_ 0), some (vi_ i), some (vi_ 1), some (vi_ j), some (vi_ n), none, none] [] σ := by
  have hA := h.1.1
  have hW := vv_WF hA
  have hC := h.2.1
  have hD := h.2.2
  have ws := hW.s
  have wn := hW.n
  have wl := hW.l
  have hS : S1_ a σ 0 11 := h.s1 (s := 0) (by decide)
  have hS2 : S1_ a σ 1 13 := h.s1 (s := 1) (by decide)
  have hz := hA.2.2.2.2.2.1 0 (by decide)
  have hz2 := hA.2.2.2.2.2.1 1 (by decide)
  have hRa := hA.2.2.2.2.2.2.2
  have cs : σ 11 1 = 0 ↔ ¬ a 11 0 = -1 := ⟨fun z c => by rw [hS.1 c] at z; exact absurd z (by decide), fun c => (hS.2 c).1⟩
  have ct : σ 13 1 = 0 ↔ ¬ a 11 1 = -1 := ⟨fun z c => by rw [hS2.1 c] at z; exact absurd z (by decide), fun c => (hS2.2 c).1⟩
  have ex : nx_copy a 0 i 1 j n = if a 11 0 = -1 ∨ a 11 1 = -1 then fd2_ a 1 else if a 11 0 ≠ a 11 1 then fd2_ a 4 else if ¬ rg_ i n (a 12 0) ∨ ¬ rg_ j n (a 12 1) then fd2_ a 2 else (1, mc_ a 13 14 i.toNat j.toNat n.toNat) := by unfold nx_copy; rw [if_neg (by omega)]; rfl
  refine V_aload_n (pc := 0) dX6_copy_0 rfl rfl ?_
  refine V_iload_n (pc := 1) dX6_copy_1 rfl rfl ?_
  refine V_callV (pc := 2) (as := [_]) (rest := []) dX6_copy_2 ⟨kX6_151, iX6_sheetAt, by decide, by decide⟩ rc_0 rfl rfl (Nat.le_of_ble_eq_true rfl) (Nat.le_of_ble_eq_true rfl) ?_
  refine ct_X6_sheetAt_11 ?_
  show V_ _ _ _ _ _ _ [_] _
  refine V_astore (pc := 5) dX6_copy_5 (by decide) rfl ?_
  show V_ _ _ _ _ _ [_, _, _, _, _, _, _, _] _ _
  refine V_aload_n (pc := 7) dX6_copy_7 rfl rfl ?_
  refine V_iload_n (pc := 8) dX6_copy_8 rfl rfl ?_
  refine V_callV (pc := 9) (as := [_]) (rest := []) dX6_copy_9 ⟨kX6_151, iX6_sheetAt, by decide, by decide⟩ rc_0 rfl rfl (Nat.le_of_ble_eq_true rfl) (Nat.le_of_ble_eq_true rfl) ?_
  refine ct_X6_sheetAt_13 ?_
  show V_ _ _ _ _ _ _ [_] _
  refine V_astore (pc := 12) dX6_copy_12 (by decide) rfl ?_
  show V_ _ _ _ _ _ [_, _, _, _, _, _, _, _] _ _
  refine V_aload (pc := 14) dX6_copy_14 rfl ?_
  refine V_ifnull (tgt := 24) (pc := 16) dX6_copy_16 (by decide) (fun z => by cases z) (fun _ _ => ?_)
  refine V_aload (pc := 19) dX6_copy_19 rfl ?_
  refine V_ifnonnull (tgt := 27) (pc := 21) dX6_copy_21 (by decide) (fun _ _ => ?_) (fun z => by cases z)
  refine V_aload (pc := 27) dX6_copy_27 rfl ?_
  refine V_geti (pc := 29) dX6_copy_29 fX6_155 rfl gg_11 rfl (fun r29 => ?_)
  refine V_if_ne (tgt := 43) (pc := 32) dX6_copy_32 (by decide) (by first | assumption | decide | omega | exact ba_rg hR | exact b2_rg) (fun h32 => ?_) (fun h32 => ?_)
  · skip
    have e : nx_copy a 0 i 1 j n = fd2_ a 1 := by rw [ex, if_pos (Or.inl (Decidable.byContradiction (fun z => h32 (cs.mpr z))))]
    refine V_aload_n (pc := 43) dX6_copy_43 rfl rfl ?_
    refine V_iconst (pc := 44) dX6_copy_44 ?_
    refine V_callV (pc := 45) (as := [_]) (rest := []) dX6_copy_45 ⟨kX6_159, iX6_found, by decide, by decide⟩ rc_0 rfl rfl (Nat.le_of_ble_eq_true rfl) (Nat.le_of_ble_eq_true rfl) ?_
    refine ct_X6_found (by decide) ?_
    show V_ _ _ _ _ _ _ [_] _
    refine V_ireturn (pc := 48) dX6_copy_48 rfl rfl (fun hR => ?_)
    have h2 := hK _ (by rw [e]; exact h.found (by omega)) (Fm_.rf.ms (by decide))
    rw [e] at h2
    exact h2
  · skip
    have c1 := cs.mp h32
    refine V_aload (pc := 35) dX6_copy_35 rfl ?_
    refine V_geti (pc := 37) dX6_copy_37 fX6_155 rfl gg_13 rfl (fun r37 => ?_)
    refine V_if_eq (tgt := 49) (pc := 40) dX6_copy_40 (by decide) (by first | assumption | decide | omega | exact ba_rg hR | exact b2_rg) (fun h40 => ?_) (fun h40 => ?_)
    · skip
      have c2 := ct.mp h40
      refine V_aload (pc := 49) dX6_copy_49 rfl ?_
      refine V_geti (pc := 51) dX6_copy_51 fX6_264 rfl gg_11 rfl (fun r51 => ?_)
      rw [(hS.2 c1).2.1] at r51 ⊢
      refine V_aload (pc := 54) dX6_copy_54 rfl ?_
      refine V_geti (pc := 56) dX6_copy_56 fX6_264 rfl gg_13 rfl (fun r56 => ?_)
      rw [(hS2.2 c2).2.1] at r56 ⊢
      refine V_icmp_eq (tgt := 68) (pc := 59) dX6_copy_59 (by decide) (by constructor <;> omega) (by constructor <;> omega) (fun h59 => ?_) (fun h59 => ?_)
      · skip
        refine V_aload (pc := 68) dX6_copy_68 rfl ?_
        refine V_iload_n (pc := 70) dX6_copy_70 rfl rfl ?_
        refine V_iload (pc := 71) dX6_copy_71 rfl ?_
        refine V_callV (pc := 73) (as := [_, _]) (rest := []) dX6_copy_73 ⟨kX6_267, iX4_hasRange, by decide, by decide⟩ rc_11 rfl rfl (Nat.le_of_ble_eq_true rfl) (Nat.le_of_ble_eq_true rfl) ?_
        refine ct_X4_hasRange_11 hi hn (hS.2 c1).2.2.1 (by omega) ?_
        show V_ _ _ _ _ _ _ [_] _
        refine V_if_eq (tgt := 91) (pc := 76) dX6_copy_76 (by decide) b2_rg (fun h76 => ?_) (fun h76 => ?_)
        · skip
          rw [b2_0] at h76
          have e : nx_copy a 0 i 1 j n = fd2_ a 2 := by rw [ex, if_neg (fun z => z.elim c1 c2), if_neg (fun z => z h59), if_pos (Or.inl h76)]
          refine V_aload_n (pc := 91) dX6_copy_91 rfl rfl ?_
          refine V_iconst (pc := 92) dX6_copy_92 ?_
          refine V_callV (pc := 93) (as := [_]) (rest := []) dX6_copy_93 ⟨kX6_159, iX6_found, by decide, by decide⟩ rc_0 rfl rfl (Nat.le_of_ble_eq_true rfl) (Nat.le_of_ble_eq_true rfl) ?_
          refine ct_X6_found (by decide) ?_
          show V_ _ _ _ _ _ _ [_] _
          refine V_ireturn (pc := 96) dX6_copy_96 rfl rfl (fun hR => ?_)
          have h2 := hK _ (by rw [e]; exact h.found (by omega)) (Fm_.rf.ms (by decide))
          rw [e] at h2
          exact h2
        · skip
          rw [b2_n0] at h76
          refine V_aload (pc := 79) dX6_copy_79 rfl ?_
          refine V_iload (pc := 81) dX6_copy_81 rfl ?_
          refine V_iload (pc := 83) dX6_copy_83 rfl ?_
          refine V_callV (pc := 85) (as := [_, _]) (rest := []) dX6_copy_85 ⟨kX6_267, iX4_hasRange, by decide, by decide⟩ rc_13 rfl rfl (Nat.le_of_ble_eq_true rfl) (Nat.le_of_ble_eq_true rfl) ?_
          refine ct_X4_hasRange_13 hj hn (hS2.2 c2).2.2.1 (by omega) ?_
          show V_ _ _ _ _ _ _ [_] _
          refine V_if_ne (tgt := 97) (pc := 88) dX6_copy_88 (by decide) b2_rg (fun h88 => ?_) (fun h88 => ?_)
          · skip
            rw [b2_n0] at h88
            have e : nx_copy a 0 i 1 j n = (1, mc_ a 13 14 i.toNat j.toNat n.toNat) := by rw [ex, if_neg (fun z => z.elim c1 c2), if_neg (fun z => z h59), if_neg (fun z => z.elim (fun z => z h76) (fun z => z h88))]
            refine V_aload (pc := 97) dX6_copy_97 rfl ?_
            refine V_getr (pc := 99) dX6_copy_99 fX6_164 rfl gg_11 rfl ?_
            refine V_iload_n (pc := 102) dX6_copy_102 rfl rfl ?_
            refine V_aload (pc := 103) dX6_copy_103 rfl ?_
            refine V_getr (pc := 105) dX6_copy_105 fX6_164 rfl gg_13 rfl ?_
            refine V_iload (pc := 108) dX6_copy_108 rfl ?_
            refine V_iload (pc := 110) dX6_copy_110 rfl ?_
            refine V_copy (pc := 112) dX6_copy_112 kX6_270 ⟨by decide, by first | decide | exact Nat.le_of_ble_eq_true rfl⟩ gg_12 gg_14 (by have : ((60 : Nat) : Int) = 60 := rfl; omega) (by decide) (by decide) ?_
            refine V_iconst (pc := 115) dX6_copy_115 ?_
            refine V_ireturn (pc := 116) dX6_copy_116 rfl rfl (fun hR => ?_)
            have hcr : CR_ (mc_ a 13 14 i.toNat j.toNat n.toNat) (mc_ σ 12 14 i.toNat j.toNat n.toNat) := by
              refine h.sht (s := 1) (k := 13) rfl (by decide) ⟨fun q hq => by rw [mc_rw (by decide), mc_rw (by decide)]; exact hA.2.2.2.2.2.1 q hq, hRa.mc⟩ (fun q q1 q2 => mc_rw q2) (fun q q1 q2 q3 => mc_rw q3) (fun q hq => by rw [mc_rw (by decide), mc_rw (by decide)]; exact ⟨rfl, rfl⟩) ⟨fun z => ?_, fun z => ⟨?_, ?_, ?_, fun q hq => ?_⟩⟩
              · rw [mc_rw (by decide)] at z; exact absurd z c2
              · rw [mc_rw (by decide)]; exact (hS2.2 c2).1
              · rw [mc_rw (by decide), mc_rw (by decide)]; exact (hS2.2 c2).2.1
              · rw [mc_rw (by decide), mc_rw (by decide)]; exact (hS2.2 c2).2.2.1
              · rw [mc_rw (by decide)] at hq
                show mc_ σ 12 14 i.toNat j.toNat n.toNat 14 q = mc_ a 13 14 i.toNat j.toNat n.toNat 14 q
                unfold mc_
                by_cases c : j.toNat ≤ q ∧ q < j.toNat + n.toNat
                · rw [if_pos ⟨rfl, c⟩, if_pos ⟨rfl, c⟩]
                  exact (hS.2 c1).2.2.2 _ (by omega)
                · rw [if_neg (fun z => c z.2), if_neg (fun z => c z.2)]
                  exact (hS2.2 c2).2.2.2 q hq
            have h2 := hK _ (by rw [e]; exact hcr) (fun q hq => mc_rw (by omega))
            rw [e] at h2
            exact h2
          · skip
            rw [b2_0] at h88
            have e : nx_copy a 0 i 1 j n = fd2_ a 2 := by rw [ex, if_neg (fun z => z.elim c1 c2), if_neg (fun z => z h59), if_pos (Or.inr h88)]
            refine V_aload_n (pc := 91) dX6_copy_91 rfl rfl ?_
            refine V_iconst (pc := 92) dX6_copy_92 ?_
            refine V_callV (pc := 93) (as := [_]) (rest := []) dX6_copy_93 ⟨kX6_159, iX6_found, by decide, by decide⟩ rc_0 rfl rfl (Nat.le_of_ble_eq_true rfl) (Nat.le_of_ble_eq_true rfl) ?_
            refine ct_X6_found (by decide) ?_
            show V_ _ _ _ _ _ _ [_] _
            refine V_ireturn (pc := 96) dX6_copy_96 rfl rfl (fun hR => ?_)
            have h2 := hK _ (by rw [e]; exact h.found (by omega)) (Fm_.rf.ms (by decide))
            rw [e] at h2
            exact h2
      · skip
        have e : nx_copy a 0 i 1 j n = fd2_ a 4 := by rw [ex, if_neg (fun z => z.elim c1 c2), if_pos h59]
        refine V_aload_n (pc := 62) dX6_copy_62 rfl rfl ?_
        refine V_iconst (pc := 63) dX6_copy_63 ?_
        refine V_callV (pc := 64) (as := [_]) (rest := []) dX6_copy_64 ⟨kX6_159, iX6_found, by decide, by decide⟩ rc_0 rfl rfl (Nat.le_of_ble_eq_true rfl) (Nat.le_of_ble_eq_true rfl) ?_
        refine ct_X6_found (by decide) ?_
        show V_ _ _ _ _ _ _ [_] _
        refine V_ireturn (pc := 67) dX6_copy_67 rfl rfl (fun hR => ?_)
        have h2 := hK _ (by rw [e]; exact h.found (by omega)) (Fm_.rf.ms (by decide))
        rw [e] at h2
        exact h2
    · skip
      have e : nx_copy a 0 i 1 j n = fd2_ a 1 := by rw [ex, if_pos (Or.inr (Decidable.byContradiction (fun z => h40 (ct.mpr z))))]
      refine V_aload_n (pc := 43) dX6_copy_43 rfl rfl ?_
      refine V_iconst (pc := 44) dX6_copy_44 ?_
      refine V_callV (pc := 45) (as := [_]) (rest := []) dX6_copy_45 ⟨kX6_159, iX6_found, by decide, by decide⟩ rc_0 rfl rfl (Nat.le_of_ble_eq_true rfl) (Nat.le_of_ble_eq_true rfl) ?_
      refine ct_X6_found (by decide) ?_
      show V_ _ _ _ _ _ _ [_] _
      refine V_ireturn (pc := 48) dX6_copy_48 rfl rfl (fun hR => ?_)
      have h2 := hK _ (by rw [e]; exact h.found (by omega)) (Fm_.rf.ms (by decide))
      rw [e] at h2
      exact h2
theorem ct_X6_copy_11_15 {i j n : Int} (hi : Rg_ i) (hj : Rg_ j) (hn : Rg_ n) (h : CR_ a σ) (hK : ∀ σ1, CR_ (nx_copy a 0 i 2 j n).2 σ1 → Fm_ σ σ1 → post (some (vi_ (nx_copy a 0 i 2 j n).1)) σ1) : V_ l D mX6_copy (CM_ D mX6_copy post) 0 [some (vr_ 0), some (vi_ 0), some (vi_ i), some (vi_ 2), some (vi_ j), some (vi_ n), none, none] [] σ := by
  have hA := h.1.1
  have hW := vv_WF hA
  have hC := h.2.1
  have hD := h.2.2
  have ws := hW.s
  have wn := hW.n
  have wl := hW.l
  have hS : S1_ a σ 0 11 := h.s1 (s := 0) (by decide)
  have hS2 : S1_ a σ 2 15 := h.s1 (s := 2) (by decide)
  have hz := hA.2.2.2.2.2.1 0 (by decide)
  have hz2 := hA.2.2.2.2.2.1 2 (by decide)
  have hRa := hA.2.2.2.2.2.2.2
  have cs : σ 11 1 = 0 ↔ ¬ a 11 0 = -1 := ⟨fun z c => by rw [hS.1 c] at z; exact absurd z (by decide), fun c => (hS.2 c).1⟩
  have ct : σ 15 1 = 0 ↔ ¬ a 11 2 = -1 := ⟨fun z c => by rw [hS2.1 c] at z; exact absurd z (by decide), fun c => (hS2.2 c).1⟩
  have ex : nx_copy a 0 i 2 j n = if a 11 0 = -1 ∨ a 11 2 = -1 then fd2_ a 1 else if a 11 0 ≠ a 11 2 then fd2_ a 4 else if ¬ rg_ i n (a 12 0) ∨ ¬ rg_ j n (a 12 2) then fd2_ a 2 else (1, mc_ a 13 15 i.toNat j.toNat n.toNat) := by unfold nx_copy; rw [if_neg (by omega)]; rfl
  refine V_aload_n (pc := 0) dX6_copy_0 rfl rfl ?_
  refine V_iload_n (pc := 1) dX6_copy_1 rfl rfl ?_
  refine V_callV (pc := 2) (as := [_]) (rest := []) dX6_copy_2 ⟨kX6_151, iX6_sheetAt, by decide, by decide⟩ rc_0 rfl rfl (Nat.le_of_ble_eq_true rfl) (Nat.le_of_ble_eq_true rfl) ?_
  refine ct_X6_sheetAt_11 ?_
  show V_ _ _ _ _ _ _ [_] _
  refine V_astore (pc := 5) dX6_copy_5 (by decide) rfl ?_
  show V_ _ _ _ _ _ [_, _, _, _, _, _, _, _] _ _
  refine V_aload_n (pc := 7) dX6_copy_7 rfl rfl ?_
  refine V_iload_n (pc := 8) dX6_copy_8 rfl rfl ?_
  refine V_callV (pc := 9) (as := [_]) (rest := []) dX6_copy_9 ⟨kX6_151, iX6_sheetAt, by decide, by decide⟩ rc_0 rfl rfl (Nat.le_of_ble_eq_true rfl) (Nat.le_of_ble_eq_true rfl) ?_
  refine ct_X6_sheetAt_15 ?_
  show V_ _ _ _ _ _ _ [_] _
  refine V_astore (pc := 12) dX6_copy_12 (by decide) rfl ?_
  show V_ _ _ _ _ _ [_, _, _, _, _, _, _, _] _ _
  refine V_aload (pc := 14) dX6_copy_14 rfl ?_
  refine V_ifnull (tgt := 24) (pc := 16) dX6_copy_16 (by decide) (fun z => by cases z) (fun _ _ => ?_)
  refine V_aload (pc := 19) dX6_copy_19 rfl ?_
  refine V_ifnonnull (tgt := 27) (pc := 21) dX6_copy_21 (by decide) (fun _ _ => ?_) (fun z => by cases z)
  refine V_aload (pc := 27) dX6_copy_27 rfl ?_
  refine V_geti (pc := 29) dX6_copy_29 fX6_155 rfl gg_11 rfl (fun r29 => ?_)
  refine V_if_ne (tgt := 43) (pc := 32) dX6_copy_32 (by decide) (by first | assumption | decide | omega | exact ba_rg hR | exact b2_rg) (fun h32 => ?_) (fun h32 => ?_)
  · skip
    have e : nx_copy a 0 i 2 j n = fd2_ a 1 := by rw [ex, if_pos (Or.inl (Decidable.byContradiction (fun z => h32 (cs.mpr z))))]
    refine V_aload_n (pc := 43) dX6_copy_43 rfl rfl ?_
    refine V_iconst (pc := 44) dX6_copy_44 ?_
    refine V_callV (pc := 45) (as := [_]) (rest := []) dX6_copy_45 ⟨kX6_159, iX6_found, by decide, by decide⟩ rc_0 rfl rfl (Nat.le_of_ble_eq_true rfl) (Nat.le_of_ble_eq_true rfl) ?_
    refine ct_X6_found (by decide) ?_
    show V_ _ _ _ _ _ _ [_] _
    refine V_ireturn (pc := 48) dX6_copy_48 rfl rfl (fun hR => ?_)
    have h2 := hK _ (by rw [e]; exact h.found (by omega)) (Fm_.rf.ms (by decide))
    rw [e] at h2
    exact h2
  · skip
    have c1 := cs.mp h32
    refine V_aload (pc := 35) dX6_copy_35 rfl ?_
    refine V_geti (pc := 37) dX6_copy_37 fX6_155 rfl gg_15 rfl (fun r37 => ?_)
    refine V_if_eq (tgt := 49) (pc := 40) dX6_copy_40 (by decide) (by first | assumption | decide | omega | exact ba_rg hR | exact b2_rg) (fun h40 => ?_) (fun h40 => ?_)
    · skip
      have c2 := ct.mp h40
      refine V_aload (pc := 49) dX6_copy_49 rfl ?_
      refine V_geti (pc := 51) dX6_copy_51 fX6_264 rfl gg_11 rfl (fun r51 => ?_)
      rw [(hS.2 c1).2.1] at r51 ⊢
      refine V_aload (pc := 54) dX6_copy_54 rfl ?_
      refine V_geti (pc := 56) dX6_copy_56 fX6_264 rfl gg_15 rfl (fun r56 => ?_)
      rw [(hS2.2 c2).2.1] at r56 ⊢
      refine V_icmp_eq (tgt := 68) (pc := 59) dX6_copy_59 (by decide) (by constructor <;> omega) (by constructor <;> omega) (fun h59 => ?_) (fun h59 => ?_)
      · skip
        refine V_aload (pc := 68) dX6_copy_68 rfl ?_
        refine V_iload_n (pc := 70) dX6_copy_70 rfl rfl ?_
        refine V_iload (pc := 71) dX6_copy_71 rfl ?_
        refine V_callV (pc := 73) (as := [_, _]) (rest := []) dX6_copy_73 ⟨kX6_267, iX4_hasRange, by decide, by decide⟩ rc_11 rfl rfl (Nat.le_of_ble_eq_true rfl) (Nat.le_of_ble_eq_true rfl) ?_
        refine ct_X4_hasRange_11 hi hn (hS.2 c1).2.2.1 (by omega) ?_
        show V_ _ _ _ _ _ _ [_] _
        refine V_if_eq (tgt := 91) (pc := 76) dX6_copy_76 (by decide) b2_rg (fun h76 => ?_) (fun h76 => ?_)
        · skip
          rw [b2_0] at h76
          have e : nx_copy a 0 i 2 j n = fd2_ a 2 := by rw [ex, if_neg (fun z => z.elim c1 c2), if_neg (fun z => z h59), if_pos (Or.inl h76)]
          refine V_aload_n (pc := 91) dX6_copy_91 rfl rfl ?_
          refine V_iconst (pc := 92) dX6_copy_92 ?_
          refine V_callV (pc := 93) (as := [_]) (rest := []) dX6_copy_93 ⟨kX6_159, iX6_found, by decide, by decide⟩ rc_0 rfl rfl (Nat.le_of_ble_eq_true rfl) (Nat.le_of_ble_eq_true rfl) ?_
          refine ct_X6_found (by decide) ?_
          show V_ _ _ _ _ _ _ [_] _
          refine V_ireturn (pc := 96) dX6_copy_96 rfl rfl (fun hR => ?_)
          have h2 := hK _ (by rw [e]; exact h.found (by omega)) (Fm_.rf.ms (by decide))
          rw [e] at h2
          exact h2
        · skip
          rw [b2_n0] at h76
          refine V_aload (pc := 79) dX6_copy_79 rfl ?_
          refine V_iload (pc := 81) dX6_copy_81 rfl ?_
          refine V_iload (pc := 83) dX6_copy_83 rfl ?_
          refine V_callV (pc := 85) (as := [_, _]) (rest := []) dX6_copy_85 ⟨kX6_267, iX4_hasRange, by decide, by decide⟩ rc_15 rfl rfl (Nat.le_of_ble_eq_true rfl) (Nat.le_of_ble_eq_true rfl) ?_
          refine ct_X4_hasRange_15 hj hn (hS2.2 c2).2.2.1 (by omega) ?_
          show V_ _ _ _ _ _ _ [_] _
          refine V_if_ne (tgt := 97) (pc := 88) dX6_copy_88 (by decide) b2_rg (fun h88 => ?_) (fun h88 => ?_)
          · skip
            rw [b2_n0] at h88
            have e : nx_copy a 0 i 2 j n = (1, mc_ a 13 15 i.toNat j.toNat n.toNat) := by rw [ex, if_neg (fun z => z.elim c1 c2), if_neg (fun z => z h59), if_neg (fun z => z.elim (fun z => z h76) (fun z => z h88))]
            refine V_aload (pc := 97) dX6_copy_97 rfl ?_
            refine V_getr (pc := 99) dX6_copy_99 fX6_164 rfl gg_11 rfl ?_
            refine V_iload_n (pc := 102) dX6_copy_102 rfl rfl ?_
            refine V_aload (pc := 103) dX6_copy_103 rfl ?_
            refine V_getr (pc := 105) dX6_copy_105 fX6_164 rfl gg_15 rfl ?_
            refine V_iload (pc := 108) dX6_copy_108 rfl ?_
            refine V_iload (pc := 110) dX6_copy_110 rfl ?_
            refine V_copy (pc := 112) dX6_copy_112 kX6_270 ⟨by decide, by first | decide | exact Nat.le_of_ble_eq_true rfl⟩ gg_12 gg_16 (by have : ((60 : Nat) : Int) = 60 := rfl; omega) (by decide) (by decide) ?_
            refine V_iconst (pc := 115) dX6_copy_115 ?_
            refine V_ireturn (pc := 116) dX6_copy_116 rfl rfl (fun hR => ?_)
            have hcr : CR_ (mc_ a 13 15 i.toNat j.toNat n.toNat) (mc_ σ 12 16 i.toNat j.toNat n.toNat) := by
              refine h.sht (s := 2) (k := 15) rfl (by decide) ⟨fun q hq => by rw [mc_rw (by decide), mc_rw (by decide)]; exact hA.2.2.2.2.2.1 q hq, hRa.mc⟩ (fun q q1 q2 => mc_rw q2) (fun q q1 q2 q3 => mc_rw q3) (fun q hq => by rw [mc_rw (by decide), mc_rw (by decide)]; exact ⟨rfl, rfl⟩) ⟨fun z => ?_, fun z => ⟨?_, ?_, ?_, fun q hq => ?_⟩⟩
              · rw [mc_rw (by decide)] at z; exact absurd z c2
              · rw [mc_rw (by decide)]; exact (hS2.2 c2).1
              · rw [mc_rw (by decide), mc_rw (by decide)]; exact (hS2.2 c2).2.1
              · rw [mc_rw (by decide), mc_rw (by decide)]; exact (hS2.2 c2).2.2.1
              · rw [mc_rw (by decide)] at hq
                show mc_ σ 12 16 i.toNat j.toNat n.toNat 16 q = mc_ a 13 15 i.toNat j.toNat n.toNat 15 q
                unfold mc_
                by_cases c : j.toNat ≤ q ∧ q < j.toNat + n.toNat
                · rw [if_pos ⟨rfl, c⟩, if_pos ⟨rfl, c⟩]
                  exact (hS.2 c1).2.2.2 _ (by omega)
                · rw [if_neg (fun z => c z.2), if_neg (fun z => c z.2)]
                  exact (hS2.2 c2).2.2.2 q hq
            have h2 := hK _ (by rw [e]; exact hcr) (fun q hq => mc_rw (by omega))
            rw [e] at h2
            exact h2
          · skip
            rw [b2_0] at h88
            have e : nx_copy a 0 i 2 j n = fd2_ a 2 := by rw [ex, if_neg (fun z => z.elim c1 c2), if_neg (fun z => z h59), if_pos (Or.inr h88)]
            refine V_aload_n (pc := 91) dX6_copy_91 rfl rfl ?_
            refine V_iconst (pc := 92) dX6_copy_92 ?_
            refine V_callV (pc := 93) (as := [_]) (rest := []) dX6_copy_93 ⟨kX6_159, iX6_found, by decide, by decide⟩ rc_0 rfl rfl (Nat.le_of_ble_eq_true rfl) (Nat.le_of_ble_eq_true rfl) ?_
            refine ct_X6_found (by decide) ?_
            show V_ _ _ _ _ _ _ [_] _
            refine V_ireturn (pc := 96) dX6_copy_96 rfl rfl (fun hR => ?_)
            have h2 := hK _ (by rw [e]; exact h.found (by omega)) (Fm_.rf.ms (by decide))
            rw [e] at h2
            exact h2
      · skip
        have e : nx_copy a 0 i 2 j n = fd2_ a 4 := by rw [ex, if_neg (fun z => z.elim c1 c2), if_pos h59]
        refine V_aload_n (pc := 62) dX6_copy_62 rfl rfl ?_
        refine V_iconst (pc := 63) dX6_copy_63 ?_
        refine V_callV (pc := 64) (as := [_]) (rest := []) dX6_copy_64 ⟨kX6_159, iX6_found, by decide, by decide⟩ rc_0 rfl rfl (Nat.le_of_ble_eq_true rfl) (Nat.le_of_ble_eq_true rfl) ?_
        refine ct_X6_found (by decide) ?_
        show V_ _ _ _ _ _ _ [_] _
        refine V_ireturn (pc := 67) dX6_copy_67 rfl rfl (fun hR => ?_)
        have h2 := hK _ (by rw [e]; exact h.found (by omega)) (Fm_.rf.ms (by decide))
        rw [e] at h2
        exact h2
    · skip
      have e : nx_copy a 0 i 2 j n = fd2_ a 1 := by rw [ex, if_pos (Or.inr (Decidable.byContradiction (fun z => h40 (ct.mpr z))))]
      refine V_aload_n (pc := 43) dX6_copy_43 rfl rfl ?_
      refine V_iconst (pc := 44) dX6_copy_44 ?_
      refine V_callV (pc := 45) (as := [_]) (rest := []) dX6_copy_45 ⟨kX6_159, iX6_found, by decide, by decide⟩ rc_0 rfl rfl (Nat.le_of_ble_eq_true rfl) (Nat.le_of_ble_eq_true rfl) ?_
      refine ct_X6_found (by decide) ?_
      show V_ _ _ _ _ _ _ [_] _
      refine V_ireturn (pc := 48) dX6_copy_48 rfl rfl (fun hR => ?_)
      have h2 := hK _ (by rw [e]; exact h.found (by omega)) (Fm_.rf.ms (by decide))
      rw [e] at h2
      exact h2
theorem ct_X6_copy_11_17 {i j n : Int} (hi : Rg_ i) (hj : Rg_ j) (hn : Rg_ n) (h : CR_ a σ) (hK : ∀ σ1, CR_ (nx_copy a 0 i 3 j n).2 σ1 → Fm_ σ σ1 → post (some (vi_ (nx_copy a 0 i 3 j n).1)) σ1) : V_ l D mX6_copy (CM_ D mX6_copy post) 0 [some (vr_ 0), some (vi_ 0), some (vi_ i), some (vi_ 3), some (vi_ j), some (vi_ n), none, none] [] σ := by
  have hA := h.1.1
  have hW := vv_WF hA
  have hC := h.2.1
  have hD := h.2.2
  have ws := hW.s
  have wn := hW.n
  have wl := hW.l
  have hS : S1_ a σ 0 11 := h.s1 (s := 0) (by decide)
  have hS2 : S1_ a σ 3 17 := h.s1 (s := 3) (by decide)
  have hz := hA.2.2.2.2.2.1 0 (by decide)
  have hz2 := hA.2.2.2.2.2.1 3 (by decide)
  have hRa := hA.2.2.2.2.2.2.2
  have cs : σ 11 1 = 0 ↔ ¬ a 11 0 = -1 := ⟨fun z c => by rw [hS.1 c] at z; exact absurd z (by decide), fun c => (hS.2 c).1⟩
  have ct : σ 17 1 = 0 ↔ ¬ a 11 3 = -1 := ⟨fun z c => by rw [hS2.1 c] at z; exact absurd z (by decide), fun c => (hS2.2 c).1⟩
  have ex : nx_copy a 0 i 3 j n = if a 11 0 = -1 ∨ a 11 3 = -1 then fd2_ a 1 else if a 11 0 ≠ a 11 3 then fd2_ a 4 else if ¬ rg_ i n (a 12 0) ∨ ¬ rg_ j n (a 12 3) then fd2_ a 2 else (1, mc_ a 13 16 i.toNat j.toNat n.toNat) := by unfold nx_copy; rw [if_neg (by omega)]; rfl
  refine V_aload_n (pc := 0) dX6_copy_0 rfl rfl ?_
  refine V_iload_n (pc := 1) dX6_copy_1 rfl rfl ?_
  refine V_callV (pc := 2) (as := [_]) (rest := []) dX6_copy_2 ⟨kX6_151, iX6_sheetAt, by decide, by decide⟩ rc_0 rfl rfl (Nat.le_of_ble_eq_true rfl) (Nat.le_of_ble_eq_true rfl) ?_
  refine ct_X6_sheetAt_11 ?_
  show V_ _ _ _ _ _ _ [_] _
  refine V_astore (pc := 5) dX6_copy_5 (by decide) rfl ?_
  show V_ _ _ _ _ _ [_, _, _, _, _, _, _, _] _ _
  refine V_aload_n (pc := 7) dX6_copy_7 rfl rfl ?_
  refine V_iload_n (pc := 8) dX6_copy_8 rfl rfl ?_
  refine V_callV (pc := 9) (as := [_]) (rest := []) dX6_copy_9 ⟨kX6_151, iX6_sheetAt, by decide, by decide⟩ rc_0 rfl rfl (Nat.le_of_ble_eq_true rfl) (Nat.le_of_ble_eq_true rfl) ?_
  refine ct_X6_sheetAt_17 ?_
  show V_ _ _ _ _ _ _ [_] _
  refine V_astore (pc := 12) dX6_copy_12 (by decide) rfl ?_
  show V_ _ _ _ _ _ [_, _, _, _, _, _, _, _] _ _
  refine V_aload (pc := 14) dX6_copy_14 rfl ?_
  refine V_ifnull (tgt := 24) (pc := 16) dX6_copy_16 (by decide) (fun z => by cases z) (fun _ _ => ?_)
  refine V_aload (pc := 19) dX6_copy_19 rfl ?_
  refine V_ifnonnull (tgt := 27) (pc := 21) dX6_copy_21 (by decide) (fun _ _ => ?_) (fun z => by cases z)
  refine V_aload (pc := 27) dX6_copy_27 rfl ?_
  refine V_geti (pc := 29) dX6_copy_29 fX6_155 rfl gg_11 rfl (fun r29 => ?_)
  refine V_if_ne (tgt := 43) (pc := 32) dX6_copy_32 (by decide) (by first | assumption | decide | omega | exact ba_rg hR | exact b2_rg) (fun h32 => ?_) (fun h32 => ?_)
  · skip
    have e : nx_copy a 0 i 3 j n = fd2_ a 1 := by rw [ex, if_pos (Or.inl (Decidable.byContradiction (fun z => h32 (cs.mpr z))))]
    refine V_aload_n (pc := 43) dX6_copy_43 rfl rfl ?_
    refine V_iconst (pc := 44) dX6_copy_44 ?_
    refine V_callV (pc := 45) (as := [_]) (rest := []) dX6_copy_45 ⟨kX6_159, iX6_found, by decide, by decide⟩ rc_0 rfl rfl (Nat.le_of_ble_eq_true rfl) (Nat.le_of_ble_eq_true rfl) ?_
    refine ct_X6_found (by decide) ?_
    show V_ _ _ _ _ _ _ [_] _
    refine V_ireturn (pc := 48) dX6_copy_48 rfl rfl (fun hR => ?_)
    have h2 := hK _ (by rw [e]; exact h.found (by omega)) (Fm_.rf.ms (by decide))
    rw [e] at h2
    exact h2
  · skip
    have c1 := cs.mp h32
    refine V_aload (pc := 35) dX6_copy_35 rfl ?_
    refine V_geti (pc := 37) dX6_copy_37 fX6_155 rfl gg_17 rfl (fun r37 => ?_)
    refine V_if_eq (tgt := 49) (pc := 40) dX6_copy_40 (by decide) (by first | assumption | decide | omega | exact ba_rg hR | exact b2_rg) (fun h40 => ?_) (fun h40 => ?_)
    · skip
      have c2 := ct.mp h40
      refine V_aload (pc := 49) dX6_copy_49 rfl ?_
      refine V_geti (pc := 51) dX6_copy_51 fX6_264 rfl gg_11 rfl (fun r51 => ?_)
      rw [(hS.2 c1).2.1] at r51 ⊢
      refine V_aload (pc := 54) dX6_copy_54 rfl ?_
      refine V_geti (pc := 56) dX6_copy_56 fX6_264 rfl gg_17 rfl (fun r56 => ?_)
      rw [(hS2.2 c2).2.1] at r56 ⊢
      refine V_icmp_eq (tgt := 68) (pc := 59) dX6_copy_59 (by decide) (by constructor <;> omega) (by constructor <;> omega) (fun h59 => ?_) (fun h59 => ?_)
      · skip
        refine V_aload (pc := 68) dX6_copy_68 rfl ?_
        refine V_iload_n (pc := 70) dX6_copy_70 rfl rfl ?_
        refine V_iload (pc := 71) dX6_copy_71 rfl ?_
        refine V_callV (pc := 73) (as := [_, _]) (rest := []) dX6_copy_73 ⟨kX6_267, iX4_hasRange, by decide, by decide⟩ rc_11 rfl rfl (Nat.le_of_ble_eq_true rfl) (Nat.le_of_ble_eq_true rfl) ?_
        refine ct_X4_hasRange_11 hi hn (hS.2 c1).2.2.1 (by omega) ?_
        show V_ _ _ _ _ _ _ [_] _
        refine V_if_eq (tgt := 91) (pc := 76) dX6_copy_76 (by decide) b2_rg (fun h76 => ?_) (fun h76 => ?_)
        · skip
          rw [b2_0] at h76
          have e : nx_copy a 0 i 3 j n = fd2_ a 2 := by rw [ex, if_neg (fun z => z.elim c1 c2), if_neg (fun z => z h59), if_pos (Or.inl h76)]
          refine V_aload_n (pc := 91) dX6_copy_91 rfl rfl ?_
          refine V_iconst (pc := 92) dX6_copy_92 ?_
          refine V_callV (pc := 93) (as := [_]) (rest := []) dX6_copy_93 ⟨kX6_159, iX6_found, by decide, by decide⟩ rc_0 rfl rfl (Nat.le_of_ble_eq_true rfl) (Nat.le_of_ble_eq_true rfl) ?_
          refine ct_X6_found (by decide) ?_
          show V_ _ _ _ _ _ _ [_] _
          refine V_ireturn (pc := 96) dX6_copy_96 rfl rfl (fun hR => ?_)
          have h2 := hK _ (by rw [e]; exact h.found (by omega)) (Fm_.rf.ms (by decide))
          rw [e] at h2
          exact h2
        · skip
          rw [b2_n0] at h76
          refine V_aload (pc := 79) dX6_copy_79 rfl ?_
          refine V_iload (pc := 81) dX6_copy_81 rfl ?_
          refine V_iload (pc := 83) dX6_copy_83 rfl ?_
          refine V_callV (pc := 85) (as := [_, _]) (rest := []) dX6_copy_85 ⟨kX6_267, iX4_hasRange, by decide, by decide⟩ rc_17 rfl rfl (Nat.le_of_ble_eq_true rfl) (Nat.le_of_ble_eq_true rfl) ?_
          refine ct_X4_hasRange_17 hj hn (hS2.2 c2).2.2.1 (by omega) ?_
          show V_ _ _ _ _ _ _ [_] _
          refine V_if_ne (tgt := 97) (pc := 88) dX6_copy_88 (by decide) b2_rg (fun h88 => ?_) (fun h88 => ?_)
          · skip
            rw [b2_n0] at h88
            have e : nx_copy a 0 i 3 j n = (1, mc_ a 13 16 i.toNat j.toNat n.toNat) := by rw [ex, if_neg (fun z => z.elim c1 c2), if_neg (fun z => z h59), if_neg (fun z => z.elim (fun z => z h76) (fun z => z h88))]
            refine V_aload (pc := 97) dX6_copy_97 rfl ?_
            refine V_getr (pc := 99) dX6_copy_99 fX6_164 rfl gg_11 rfl ?_
            refine V_iload_n (pc := 102) dX6_copy_102 rfl rfl ?_
            refine V_aload (pc := 103) dX6_copy_103 rfl ?_
            refine V_getr (pc := 105) dX6_copy_105 fX6_164 rfl gg_17 rfl ?_
            refine V_iload (pc := 108) dX6_copy_108 rfl ?_
            refine V_iload (pc := 110) dX6_copy_110 rfl ?_
            refine V_copy (pc := 112) dX6_copy_112 kX6_270 ⟨by decide, by first | decide | exact Nat.le_of_ble_eq_true rfl⟩ gg_12 gg_18 (by have : ((60 : Nat) : Int) = 60 := rfl; omega) (by decide) (by decide) ?_
            refine V_iconst (pc := 115) dX6_copy_115 ?_
            refine V_ireturn (pc := 116) dX6_copy_116 rfl rfl (fun hR => ?_)
            have hcr : CR_ (mc_ a 13 16 i.toNat j.toNat n.toNat) (mc_ σ 12 18 i.toNat j.toNat n.toNat) := by
              refine h.sht (s := 3) (k := 17) rfl (by decide) ⟨fun q hq => by rw [mc_rw (by decide), mc_rw (by decide)]; exact hA.2.2.2.2.2.1 q hq, hRa.mc⟩ (fun q q1 q2 => mc_rw q2) (fun q q1 q2 q3 => mc_rw q3) (fun q hq => by rw [mc_rw (by decide), mc_rw (by decide)]; exact ⟨rfl, rfl⟩) ⟨fun z => ?_, fun z => ⟨?_, ?_, ?_, fun q hq => ?_⟩⟩
              · rw [mc_rw (by decide)] at z; exact absurd z c2
              · rw [mc_rw (by decide)]; exact (hS2.2 c2).1
              · rw [mc_rw (by decide), mc_rw (by decide)]; exact (hS2.2 c2).2.1
              · rw [mc_rw (by decide), mc_rw (by decide)]; exact (hS2.2 c2).2.2.1
              · rw [mc_rw (by decide)] at hq
                show mc_ σ 12 18 i.toNat j.toNat n.toNat 18 q = mc_ a 13 16 i.toNat j.toNat n.toNat 16 q
                unfold mc_
                by_cases c : j.toNat ≤ q ∧ q < j.toNat + n.toNat
                · rw [if_pos ⟨rfl, c⟩, if_pos ⟨rfl, c⟩]
                  exact (hS.2 c1).2.2.2 _ (by omega)
                · rw [if_neg (fun z => c z.2), if_neg (fun z => c z.2)]
                  exact (hS2.2 c2).2.2.2 q hq
            have h2 := hK _ (by rw [e]; exact hcr) (fun q hq => mc_rw (by omega))
            rw [e] at h2
            exact h2
          · skip
            rw [b2_0] at h88
            have e : nx_copy a 0 i 3 j n = fd2_ a 2 := by rw [ex, if_neg (fun z => z.elim c1 c2), if_neg (fun z => z h59), if_pos (Or.inr h88)]
            refine V_aload_n (pc := 91) dX6_copy_91 rfl rfl ?_
            refine V_iconst (pc := 92) dX6_copy_92 ?_
            refine V_callV (pc := 93) (as := [_]) (rest := []) dX6_copy_93 ⟨kX6_159, iX6_found, by decide, by decide⟩ rc_0 rfl rfl (Nat.le_of_ble_eq_true rfl) (Nat.le_of_ble_eq_true rfl) ?_
            refine ct_X6_found (by decide) ?_
            show V_ _ _ _ _ _ _ [_] _
            refine V_ireturn (pc := 96) dX6_copy_96 rfl rfl (fun hR => ?_)
            have h2 := hK _ (by rw [e]; exact h.found (by omega)) (Fm_.rf.ms (by decide))
            rw [e] at h2
            exact h2
      · skip
        have e : nx_copy a 0 i 3 j n = fd2_ a 4 := by rw [ex, if_neg (fun z => z.elim c1 c2), if_pos h59]
        refine V_aload_n (pc := 62) dX6_copy_62 rfl rfl ?_
        refine V_iconst (pc := 63) dX6_copy_63 ?_
        refine V_callV (pc := 64) (as := [_]) (rest := []) dX6_copy_64 ⟨kX6_159, iX6_found, by decide, by decide⟩ rc_0 rfl rfl (Nat.le_of_ble_eq_true rfl) (Nat.le_of_ble_eq_true rfl) ?_
        refine ct_X6_found (by decide) ?_
        show V_ _ _ _ _ _ _ [_] _
        refine V_ireturn (pc := 67) dX6_copy_67 rfl rfl (fun hR => ?_)
        have h2 := hK _ (by rw [e]; exact h.found (by omega)) (Fm_.rf.ms (by decide))
        rw [e] at h2
        exact h2
    · skip
      have e : nx_copy a 0 i 3 j n = fd2_ a 1 := by rw [ex, if_pos (Or.inr (Decidable.byContradiction (fun z => h40 (ct.mpr z))))]
      refine V_aload_n (pc := 43) dX6_copy_43 rfl rfl ?_
      refine V_iconst (pc := 44) dX6_copy_44 ?_
      refine V_callV (pc := 45) (as := [_]) (rest := []) dX6_copy_45 ⟨kX6_159, iX6_found, by decide, by decide⟩ rc_0 rfl rfl (Nat.le_of_ble_eq_true rfl) (Nat.le_of_ble_eq_true rfl) ?_
      refine ct_X6_found (by decide) ?_
      show V_ _ _ _ _ _ _ [_] _
      refine V_ireturn (pc := 48) dX6_copy_48 rfl rfl (fun hR => ?_)
      have h2 := hK _ (by rw [e]; exact h.found (by omega)) (Fm_.rf.ms (by decide))
      rw [e] at h2
      exact h2
theorem ct_X6_copy_13_11 {i j n : Int} (hi : Rg_ i) (hj : Rg_ j) (hn : Rg_ n) (h : CR_ a σ) (hK : ∀ σ1, CR_ (nx_copy a 1 i 0 j n).2 σ1 → Fm_ σ σ1 → post (some (vi_ (nx_copy a 1 i 0 j n).1)) σ1) : V_ l D mX6_copy (CM_ D mX6_copy post) 0 [some (vr_ 0), some (vi_ 1), some (vi_ i), some (vi_ 0), some (vi_ j), some (vi_ n), none, none] [] σ := by
  have hA := h.1.1
  have hW := vv_WF hA
  have hC := h.2.1
  have hD := h.2.2
  have ws := hW.s
  have wn := hW.n
  have wl := hW.l
  have hS : S1_ a σ 1 13 := h.s1 (s := 1) (by decide)
  have hS2 : S1_ a σ 0 11 := h.s1 (s := 0) (by decide)
  have hz := hA.2.2.2.2.2.1 1 (by decide)
  have hz2 := hA.2.2.2.2.2.1 0 (by decide)
  have hRa := hA.2.2.2.2.2.2.2
  have cs : σ 13 1 = 0 ↔ ¬ a 11 1 = -1 := ⟨fun z c => by rw [hS.1 c] at z; exact absurd z (by decide), fun c => (hS.2 c).1⟩
  have ct : σ 11 1 = 0 ↔ ¬ a 11 0 = -1 := ⟨fun z c => by rw [hS2.1 c] at z; exact absurd z (by decide), fun c => (hS2.2 c).1⟩
  have ex : nx_copy a 1 i 0 j n = if a 11 1 = -1 ∨ a 11 0 = -1 then fd2_ a 1 else if a 11 1 ≠ a 11 0 then fd2_ a 4 else if ¬ rg_ i n (a 12 1) ∨ ¬ rg_ j n (a 12 0) then fd2_ a 2 else (1, mc_ a 14 13 i.toNat j.toNat n.toNat) := by unfold nx_copy; rw [if_neg (by omega)]; rfl
  refine V_aload_n (pc := 0) dX6_copy_0 rfl rfl ?_
  refine V_iload_n (pc := 1) dX6_copy_1 rfl rfl ?_
  refine V_callV (pc := 2) (as := [_]) (rest := []) dX6_copy_2 ⟨kX6_151, iX6_sheetAt, by decide, by decide⟩ rc_0 rfl rfl (Nat.le_of_ble_eq_true rfl) (Nat.le_of_ble_eq_true rfl) ?_
  refine ct_X6_sheetAt_13 ?_
  show V_ _ _ _ _ _ _ [_] _
  refine V_astore (pc := 5) dX6_copy_5 (by decide) rfl ?_
  show V_ _ _ _ _ _ [_, _, _, _, _, _, _, _] _ _
  refine V_aload_n (pc := 7) dX6_copy_7 rfl rfl ?_
  refine V_iload_n (pc := 8) dX6_copy_8 rfl rfl ?_
  refine V_callV (pc := 9) (as := [_]) (rest := []) dX6_copy_9 ⟨kX6_151, iX6_sheetAt, by decide, by decide⟩ rc_0 rfl rfl (Nat.le_of_ble_eq_true rfl) (Nat.le_of_ble_eq_true rfl) ?_
  refine ct_X6_sheetAt_11 ?_
  show V_ _ _ _ _ _ _ [_] _
  refine V_astore (pc := 12) dX6_copy_12 (by decide) rfl ?_
  show V_ _ _ _ _ _ [_, _, _, _, _, _, _, _] _ _
  refine V_aload (pc := 14) dX6_copy_14 rfl ?_
  refine V_ifnull (tgt := 24) (pc := 16) dX6_copy_16 (by decide) (fun z => by cases z) (fun _ _ => ?_)
  refine V_aload (pc := 19) dX6_copy_19 rfl ?_
  refine V_ifnonnull (tgt := 27) (pc := 21) dX6_copy_21 (by decide) (fun _ _ => ?_) (fun z => by cases z)
  refine V_aload (pc := 27) dX6_copy_27 rfl ?_
  refine V_geti (pc := 29) dX6_copy_29 fX6_155 rfl gg_13 rfl (fun r29 => ?_)
  refine V_if_ne (tgt := 43) (pc := 32) dX6_copy_32 (by decide) (by first | assumption | decide | omega | exact ba_rg hR | exact b2_rg) (fun h32 => ?_) (fun h32 => ?_)
  · skip
    have e : nx_copy a 1 i 0 j n = fd2_ a 1 := by rw [ex, if_pos (Or.inl (Decidable.byContradiction (fun z => h32 (cs.mpr z))))]
    refine V_aload_n (pc := 43) dX6_copy_43 rfl rfl ?_
    refine V_iconst (pc := 44) dX6_copy_44 ?_
    refine V_callV (pc := 45) (as := [_]) (rest := []) dX6_copy_45 ⟨kX6_159, iX6_found, by decide, by decide⟩ rc_0 rfl rfl (Nat.le_of_ble_eq_true rfl) (Nat.le_of_ble_eq_true rfl) ?_
    refine ct_X6_found (by decide) ?_
    show V_ _ _ _ _ _ _ [_] _
    refine V_ireturn (pc := 48) dX6_copy_48 rfl rfl (fun hR => ?_)
    have h2 := hK _ (by rw [e]; exact h.found (by omega)) (Fm_.rf.ms (by decide))
    rw [e] at h2
    exact h2
  · skip
    have c1 := cs.mp h32
    refine V_aload (pc := 35) dX6_copy_35 rfl ?_
    refine V_geti (pc := 37) dX6_copy_37 fX6_155 rfl gg_11 rfl (fun r37 => ?_)
    refine V_if_eq (tgt := 49) (pc := 40) dX6_copy_40 (by decide) (by first | assumption | decide | omega | exact ba_rg hR | exact b2_rg) (fun h40 => ?_) (fun h40 => ?_)
    · skip
      have c2 := ct.mp h40
      refine V_aload (pc := 49) dX6_copy_49 rfl ?_
      refine V_geti (pc := 51) dX6_copy_51 fX6_264 rfl gg_13 rfl (fun r51 => ?_)
      rw [(hS.2 c1).2.1] at r51 ⊢
      refine V_aload (pc := 54) dX6_copy_54 rfl ?_
      refine V_geti (pc := 56) dX6_copy_56 fX6_264 rfl gg_11 rfl (fun r56 => ?_)
      rw [(hS2.2 c2).2.1] at r56 ⊢
      refine V_icmp_eq (tgt := 68) (pc := 59) dX6_copy_59 (by decide) (by constructor <;> omega) (by constructor <;> omega) (fun h59 => ?_) (fun h59 => ?_)
      · skip
        refine V_aload (pc := 68) dX6_copy_68 rfl ?_
        refine V_iload_n (pc := 70) dX6_copy_70 rfl rfl ?_
        refine V_iload (pc := 71) dX6_copy_71 rfl ?_
        refine V_callV (pc := 73) (as := [_, _]) (rest := []) dX6_copy_73 ⟨kX6_267, iX4_hasRange, by decide, by decide⟩ rc_13 rfl rfl (Nat.le_of_ble_eq_true rfl) (Nat.le_of_ble_eq_true rfl) ?_
        refine ct_X4_hasRange_13 hi hn (hS.2 c1).2.2.1 (by omega) ?_
        show V_ _ _ _ _ _ _ [_] _
        refine V_if_eq (tgt := 91) (pc := 76) dX6_copy_76 (by decide) b2_rg (fun h76 => ?_) (fun h76 => ?_)
        · skip
          rw [b2_0] at h76
          have e : nx_copy a 1 i 0 j n = fd2_ a 2 := by rw [ex, if_neg (fun z => z.elim c1 c2), if_neg (fun z => z h59), if_pos (Or.inl h76)]
          refine V_aload_n (pc := 91) dX6_copy_91 rfl rfl ?_
          refine V_iconst (pc := 92) dX6_copy_92 ?_
          refine V_callV (pc := 93) (as := [_]) (rest := []) dX6_copy_93 ⟨kX6_159, iX6_found, by decide, by decide⟩ rc_0 rfl rfl (Nat.le_of_ble_eq_true rfl) (Nat.le_of_ble_eq_true rfl) ?_
          refine ct_X6_found (by decide) ?_
          show V_ _ _ _ _ _ _ [_] _
          refine V_ireturn (pc := 96) dX6_copy_96 rfl rfl (fun hR => ?_)
          have h2 := hK _ (by rw [e]; exact h.found (by omega)) (Fm_.rf.ms (by decide))
          rw [e] at h2
          exact h2
        · skip
          rw [b2_n0] at h76
          refine V_aload (pc := 79) dX6_copy_79 rfl ?_
          refine V_iload (pc := 81) dX6_copy_81 rfl ?_
          refine V_iload (pc := 83) dX6_copy_83 rfl ?_
          refine V_callV (pc := 85) (as := [_, _]) (rest := []) dX6_copy_85 ⟨kX6_267, iX4_hasRange, by decide, by decide⟩ rc_11 rfl rfl (Nat.le_of_ble_eq_true rfl) (Nat.le_of_ble_eq_true rfl) ?_
          refine ct_X4_hasRange_11 hj hn (hS2.2 c2).2.2.1 (by omega) ?_
          show V_ _ _ _ _ _ _ [_] _
          refine V_if_ne (tgt := 97) (pc := 88) dX6_copy_88 (by decide) b2_rg (fun h88 => ?_) (fun h88 => ?_)
          · skip
            rw [b2_n0] at h88
            have e : nx_copy a 1 i 0 j n = (1, mc_ a 14 13 i.toNat j.toNat n.toNat) := by rw [ex, if_neg (fun z => z.elim c1 c2), if_neg (fun z => z h59), if_neg (fun z => z.elim (fun z => z h76) (fun z => z h88))]
            refine V_aload (pc := 97) dX6_copy_97 rfl ?_
            refine V_getr (pc := 99) dX6_copy_99 fX6_164 rfl gg_13 rfl ?_
            refine V_iload_n (pc := 102) dX6_copy_102 rfl rfl ?_
            refine V_aload (pc := 103) dX6_copy_103 rfl ?_
            refine V_getr (pc := 105) dX6_copy_105 fX6_164 rfl gg_11 rfl ?_
            refine V_iload (pc := 108) dX6_copy_108 rfl ?_
            refine V_iload (pc := 110) dX6_copy_110 rfl ?_
            refine V_copy (pc := 112) dX6_copy_112 kX6_270 ⟨by decide, by first | decide | exact Nat.le_of_ble_eq_true rfl⟩ gg_14 gg_12 (by have : ((60 : Nat) : Int) = 60 := rfl; omega) (by decide) (by decide) ?_
            refine V_iconst (pc := 115) dX6_copy_115 ?_
            refine V_ireturn (pc := 116) dX6_copy_116 rfl rfl (fun hR => ?_)
            have hcr : CR_ (mc_ a 14 13 i.toNat j.toNat n.toNat) (mc_ σ 14 12 i.toNat j.toNat n.toNat) := by
              refine h.sht (s := 0) (k := 11) rfl (by decide) ⟨fun q hq => by rw [mc_rw (by decide), mc_rw (by decide)]; exact hA.2.2.2.2.2.1 q hq, hRa.mc⟩ (fun q q1 q2 => mc_rw q2) (fun q q1 q2 q3 => mc_rw q3) (fun q hq => by rw [mc_rw (by decide), mc_rw (by decide)]; exact ⟨rfl, rfl⟩) ⟨fun z => ?_, fun z => ⟨?_, ?_, ?_, fun q hq => ?_⟩⟩
              · rw [mc_rw (by decide)] at z; exact absurd z c2
              · rw [mc_rw (by decide)]; exact (hS2.2 c2).1
              · rw [mc_rw (by decide), mc_rw (by decide)]; exact (hS2.2 c2).2.1
              · rw [mc_rw (by decide), mc_rw (by decide)]; exact (hS2.2 c2).2.2.1
              · rw [mc_rw (by decide)] at hq
                show mc_ σ 14 12 i.toNat j.toNat n.toNat 12 q = mc_ a 14 13 i.toNat j.toNat n.toNat 13 q
                unfold mc_
                by_cases c : j.toNat ≤ q ∧ q < j.toNat + n.toNat
                · rw [if_pos ⟨rfl, c⟩, if_pos ⟨rfl, c⟩]
                  exact (hS.2 c1).2.2.2 _ (by omega)
                · rw [if_neg (fun z => c z.2), if_neg (fun z => c z.2)]
                  exact (hS2.2 c2).2.2.2 q hq
            have h2 := hK _ (by rw [e]; exact hcr) (fun q hq => mc_rw (by omega))
            rw [e] at h2
            exact h2
          · skip
            rw [b2_0] at h88
            have e : nx_copy a 1 i 0 j n = fd2_ a 2 := by rw [ex, if_neg (fun z => z.elim c1 c2), if_neg (fun z => z h59), if_pos (Or.inr h88)]
            refine V_aload_n (pc := 91) dX6_copy_91 rfl rfl ?_
            refine V_iconst (pc := 92) dX6_copy_92 ?_
            refine V_callV (pc := 93) (as := [_]) (rest := []) dX6_copy_93 ⟨kX6_159, iX6_found, by decide, by decide⟩ rc_0 rfl rfl (Nat.le_of_ble_eq_true rfl) (Nat.le_of_ble_eq_true rfl) ?_
            refine ct_X6_found (by decide) ?_
            show V_ _ _ _ _ _ _ [_] _
            refine V_ireturn (pc := 96) dX6_copy_96 rfl rfl (fun hR => ?_)
            have h2 := hK _ (by rw [e]; exact h.found (by omega)) (Fm_.rf.ms (by decide))
            rw [e] at h2
            exact h2
      · skip
        have e : nx_copy a 1 i 0 j n = fd2_ a 4 := by rw [ex, if_neg (fun z => z.elim c1 c2), if_pos h59]
        refine V_aload_n (pc := 62) dX6_copy_62 rfl rfl ?_
        refine V_iconst (pc := 63) dX6_copy_63 ?_
        refine V_callV (pc := 64) (as := [_]) (rest := []) dX6_copy_64 ⟨kX6_159, iX6_found, by decide, by decide⟩ rc_0 rfl rfl (Nat.le_of_ble_eq_true rfl) (Nat.le_of_ble_eq_true rfl) ?_
        refine ct_X6_found (by decide) ?_
        show V_ _ _ _ _ _ _ [_] _
        refine V_ireturn (pc := 67) dX6_copy_67 rfl rfl (fun hR => ?_)
        have h2 := hK _ (by rw [e]; exact h.found (by omega)) (Fm_.rf.ms (by decide))
        rw [e] at h2
        exact h2
    · skip
      have e : nx_copy a 1 i 0 j n = fd2_ a 1 := by rw [ex, if_pos (Or.inr (Decidable.byContradiction (fun z => h40 (ct.mpr z))))]
      refine V_aload_n (pc := 43) dX6_copy_43 rfl rfl ?_
      refine V_iconst (pc := 44) dX6_copy_44 ?_
      refine V_callV (pc := 45) (as := [_]) (rest := []) dX6_copy_45 ⟨kX6_159, iX6_found, by decide, by decide⟩ rc_0 rfl rfl (Nat.le_of_ble_eq_true rfl) (Nat.le_of_ble_eq_true rfl) ?_
      refine ct_X6_found (by decide) ?_
      show V_ _ _ _ _ _ _ [_] _
      refine V_ireturn (pc := 48) dX6_copy_48 rfl rfl (fun hR => ?_)
      have h2 := hK _ (by rw [e]; exact h.found (by omega)) (Fm_.rf.ms (by decide))
      rw [e] at h2
      exact h2
theorem ct_X6_copy_13_13 {i j n : Int} (hi : Rg_ i) (hj : Rg_ j) (hn : Rg_ n) (h : CR_ a σ) (hK : ∀ σ1, CR_ (nx_copy a 1 i 1 j n).2 σ1 → Fm_ σ σ1 → post (some (vi_ (nx_copy a 1 i 1 j n).1)) σ1) : V_ l D mX6_copy (CM_ D mX6_copy post) 0 [some (vr_ 0), some (vi_ 1), some (vi_ i), some (vi_ 1), some (vi_ j), some (vi_ n), none, none] [] σ := by
  have hA := h.1.1
  have hW := vv_WF hA
  have hC := h.2.1
  have hD := h.2.2
  have ws := hW.s
  have wn := hW.n
  have wl := hW.l
  have hS : S1_ a σ 1 13 := h.s1 (s := 1) (by decide)
  have hS2 : S1_ a σ 1 13 := h.s1 (s := 1) (by decide)
  have hz := hA.2.2.2.2.2.1 1 (by decide)
  have hz2 := hA.2.2.2.2.2.1 1 (by decide)
  have hRa := hA.2.2.2.2.2.2.2
  have cs : σ 13 1 = 0 ↔ ¬ a 11 1 = -1 := ⟨fun z c => by rw [hS.1 c] at z; exact absurd z (by decide), fun c => (hS.2 c).1⟩
  have ct : σ 13 1 = 0 ↔ ¬ a 11 1 = -1 := ⟨fun z c => by rw [hS2.1 c] at z; exact absurd z (by decide), fun c => (hS2.2 c).1⟩
  have ex : nx_copy a 1 i 1 j n = if a 11 1 = -1 ∨ a 11 1 = -1 then fd2_ a 1 else if a 11 1 ≠ a 11 1 then fd2_ a 4 else if ¬ rg_ i n (a 12 1) ∨ ¬ rg_ j n (a 12 1) then fd2_ a 2 else (1, mc_ a 14 14 i.toNat j.toNat n.toNat) := by unfold nx_copy; rw [if_neg (by omega)]; rfl
  refine V_aload_n (pc := 0) dX6_copy_0 rfl rfl ?_
  refine V_iload_n (pc := 1) dX6_copy_1 rfl rfl ?_
  refine V_callV (pc := 2) (as := [_]) (rest := []) dX6_copy_2 ⟨kX6_151, iX6_sheetAt, by decide, by decide⟩ rc_0 rfl rfl (Nat.le_of_ble_eq_true rfl) (Nat.le_of_ble_eq_true rfl) ?_
  refine ct_X6_sheetAt_13 ?_
  show V_ _ _ _ _ _ _ [_] _
  refine V_astore (pc := 5) dX6_copy_5 (by decide) rfl ?_
  show V_ _ _ _ _ _ [_, _, _, _, _, _, _, _] _ _
  refine V_aload_n (pc := 7) dX6_copy_7 rfl rfl ?_
  refine V_iload_n (pc := 8) dX6_copy_8 rfl rfl ?_
  refine V_callV (pc := 9) (as := [_]) (rest := []) dX6_copy_9 ⟨kX6_151, iX6_sheetAt, by decide, by decide⟩ rc_0 rfl rfl (Nat.le_of_ble_eq_true rfl) (Nat.le_of_ble_eq_true rfl) ?_
  refine ct_X6_sheetAt_13 ?_
  show V_ _ _ _ _ _ _ [_] _
  refine V_astore (pc := 12) dX6_copy_12 (by decide) rfl ?_
  show V_ _ _ _ _ _ [_, _, _, _, _, _, _, _] _ _
  refine V_aload (pc := 14) dX6_copy_14 rfl ?_
  refine V_ifnull (tgt := 24) (pc := 16) dX6_copy_16 (by decide) (fun z => by cases z) (fun _ _ => ?_)
  refine V_aload (pc := 19) dX6_copy_19 rfl ?_
  refine V_ifnonnull (tgt := 27) (pc := 21) dX6_copy_21 (by decide) (fun _ _ => ?_) (fun z => by cases z)
  refine V_aload (pc := 27) dX6_copy_27 rfl ?_
  refine V_geti (pc := 29) dX6_copy_29 fX6_155 rfl gg_13 rfl (fun r29 => ?_)
  refine V_if_ne (tgt := 43) (pc := 32) dX6_copy_32 (by decide) (by first | assumption | decide | omega | exact ba_rg hR | exact b2_rg) (fun h32 => ?_) (fun h32 => ?_)
  · skip
    have e : nx_copy a 1 i 1 j n = fd2_ a 1 := by rw [ex, if_pos (Or.inl (Decidable.byContradiction (fun z => h32 (cs.mpr z))))]
    refine V_aload_n (pc := 43) dX6_copy_43 rfl rfl ?_
    refine V_iconst (pc := 44) dX6_copy_44 ?_
    refine V_callV (pc := 45) (as := [_]) (rest := []) dX6_copy_45 ⟨kX6_159, iX6_found, by decide, by decide⟩ rc_0 rfl rfl (Nat.le_of_ble_eq_true rfl) (Nat.le_of_ble_eq_true rfl) ?_
    refine ct_X6_found (by decide) ?_
    show V_ _ _ _ _ _ _ [_] _
    refine V_ireturn (pc := 48) dX6_copy_48 rfl rfl (fun hR => ?_)
    have h2 := hK _ (by rw [e]; exact h.found (by omega)) (Fm_.rf.ms (by decide))
    rw [e] at h2
    exact h2
  · skip
    have c1 := cs.mp h32
    refine V_aload (pc := 35) dX6_copy_35 rfl ?_
    refine V_geti (pc := 37) dX6_copy_37 fX6_155 rfl gg_13 rfl (fun r37 => ?_)
    refine V_if_eq (tgt := 49) (pc := 40) dX6_copy_40 (by decide) (by first | assumption | decide | omega | exact ba_rg hR | exact b2_rg) (fun h40 => ?_) (fun h40 => ?_)
    · skip
      have c2 := ct.mp h40
      refine V_aload (pc := 49) dX6_copy_49 rfl ?_
      refine V_geti (pc := 51) dX6_copy_51 fX6_264 rfl gg_13 rfl (fun r51 => ?_)
      rw [(hS.2 c1).2.1] at r51 ⊢
      refine V_aload (pc := 54) dX6_copy_54 rfl ?_
      refine V_geti (pc := 56) dX6_copy_56 fX6_264 rfl gg_13 rfl (fun r56 => ?_)
      rw [(hS2.2 c2).2.1] at r56 ⊢
      refine V_icmp_eq (tgt := 68) (pc := 59) dX6_copy_59 (by decide) (by constructor <;> omega) (by constructor <;> omega) (fun h59 => ?_) (fun h59 => ?_)
      · skip
        refine V_aload (pc := 68) dX6_copy_68 rfl ?_
        refine V_iload_n (pc := 70) dX6_copy_70 rfl rfl ?_
        refine V_iload (pc := 71) dX6_copy_71 rfl ?_
        refine V_callV (pc := 73) (as := [_, _]) (rest := []) dX6_copy_73 ⟨kX6_267, iX4_hasRange, by decide, by decide⟩ rc_13 rfl rfl (Nat.le_of_ble_eq_true rfl) (Nat.le_of_ble_eq_true rfl) ?_
        refine ct_X4_hasRange_13 hi hn (hS.2 c1).2.2.1 (by omega) ?_
        show V_ _ _ _ _ _ _ [_] _
        refine V_if_eq (tgt := 91) (pc := 76) dX6_copy_76 (by decide) b2_rg (fun h76 => ?_) (fun h76 => ?_)
        · skip
          rw [b2_0] at h76
          have e : nx_copy a 1 i 1 j n = fd2_ a 2 := by rw [ex, if_neg (fun z => z.elim c1 c2), if_neg (fun z => z h59), if_pos (Or.inl h76)]
          refine V_aload_n (pc := 91) dX6_copy_91 rfl rfl ?_
          refine V_iconst (pc := 92) dX6_copy_92 ?_
          refine V_callV (pc := 93) (as := [_]) (rest := []) dX6_copy_93 ⟨kX6_159, iX6_found, by decide, by decide⟩ rc_0 rfl rfl (Nat.le_of_ble_eq_true rfl) (Nat.le_of_ble_eq_true rfl) ?_
          refine ct_X6_found (by decide) ?_
          show V_ _ _ _ _ _ _ [_] _
          refine V_ireturn (pc := 96) dX6_copy_96 rfl rfl (fun hR => ?_)
          have h2 := hK _ (by rw [e]; exact h.found (by omega)) (Fm_.rf.ms (by decide))
          rw [e] at h2
          exact h2
        · skip
          rw [b2_n0] at h76
          refine V_aload (pc := 79) dX6_copy_79 rfl ?_
          refine V_iload (pc := 81) dX6_copy_81 rfl ?_
          refine V_iload (pc := 83) dX6_copy_83 rfl ?_
          refine V_callV (pc := 85) (as := [_, _]) (rest := []) dX6_copy_85 ⟨kX6_267, iX4_hasRange, by decide, by decide⟩ rc_13 rfl rfl (Nat.le_of_ble_eq_true rfl) (Nat.le_of_ble_eq_true rfl) ?_
          refine ct_X4_hasRange_13 hj hn (hS2.2 c2).2.2.1 (by omega) ?_
          show V_ _ _ _ _ _ _ [_] _
          refine V_if_ne (tgt := 97) (pc := 88) dX6_copy_88 (by decide) b2_rg (fun h88 => ?_) (fun h88 => ?_)
          · skip
            rw [b2_n0] at h88
            have e : nx_copy a 1 i 1 j n = (1, mc_ a 14 14 i.toNat j.toNat n.toNat) := by rw [ex, if_neg (fun z => z.elim c1 c2), if_neg (fun z => z h59), if_neg (fun z => z.elim (fun z => z h76) (fun z => z h88))]
            refine V_aload (pc := 97) dX6_copy_97 rfl ?_
            refine V_getr (pc := 99) dX6_copy_99 fX6_164 rfl gg_13 rfl ?_
            refine V_iload_n (pc := 102) dX6_copy_102 rfl rfl ?_
            refine V_aload (pc := 103) dX6_copy_103 rfl ?_
            refine V_getr (pc := 105) dX6_copy_105 fX6_164 rfl gg_13 rfl ?_
            refine V_iload (pc := 108) dX6_copy_108 rfl ?_
            refine V_iload (pc := 110) dX6_copy_110 rfl ?_
            refine V_copy (pc := 112) dX6_copy_112 kX6_270 ⟨by decide, by first | decide | exact Nat.le_of_ble_eq_true rfl⟩ gg_14 gg_14 (by have : ((60 : Nat) : Int) = 60 := rfl; omega) (by decide) (by decide) ?_
            refine V_iconst (pc := 115) dX6_copy_115 ?_
            refine V_ireturn (pc := 116) dX6_copy_116 rfl rfl (fun hR => ?_)
            have hcr : CR_ (mc_ a 14 14 i.toNat j.toNat n.toNat) (mc_ σ 14 14 i.toNat j.toNat n.toNat) := by
              refine h.sht (s := 1) (k := 13) rfl (by decide) ⟨fun q hq => by rw [mc_rw (by decide), mc_rw (by decide)]; exact hA.2.2.2.2.2.1 q hq, hRa.mc⟩ (fun q q1 q2 => mc_rw q2) (fun q q1 q2 q3 => mc_rw q3) (fun q hq => by rw [mc_rw (by decide), mc_rw (by decide)]; exact ⟨rfl, rfl⟩) ⟨fun z => ?_, fun z => ⟨?_, ?_, ?_, fun q hq => ?_⟩⟩
              · rw [mc_rw (by decide)] at z; exact absurd z c2
              · rw [mc_rw (by decide)]; exact (hS2.2 c2).1
              · rw [mc_rw (by decide), mc_rw (by decide)]; exact (hS2.2 c2).2.1
              · rw [mc_rw (by decide), mc_rw (by decide)]; exact (hS2.2 c2).2.2.1
              · rw [mc_rw (by decide)] at hq
                show mc_ σ 14 14 i.toNat j.toNat n.toNat 14 q = mc_ a 14 14 i.toNat j.toNat n.toNat 14 q
                unfold mc_
                by_cases c : j.toNat ≤ q ∧ q < j.toNat + n.toNat
                · rw [if_pos ⟨rfl, c⟩, if_pos ⟨rfl, c⟩]
                  exact (hS.2 c1).2.2.2 _ (by omega)
                · rw [if_neg (fun z => c z.2), if_neg (fun z => c z.2)]
                  exact (hS2.2 c2).2.2.2 q hq
            have h2 := hK _ (by rw [e]; exact hcr) (fun q hq => mc_rw (by omega))
            rw [e] at h2
            exact h2
          · skip
            rw [b2_0] at h88
            have e : nx_copy a 1 i 1 j n = fd2_ a 2 := by rw [ex, if_neg (fun z => z.elim c1 c2), if_neg (fun z => z h59), if_pos (Or.inr h88)]
            refine V_aload_n (pc := 91) dX6_copy_91 rfl rfl ?_
            refine V_iconst (pc := 92) dX6_copy_92 ?_
            refine V_callV (pc := 93) (as := [_]) (rest := []) dX6_copy_93 ⟨kX6_159, iX6_found, by decide, by decide⟩ rc_0 rfl rfl (Nat.le_of_ble_eq_true rfl) (Nat.le_of_ble_eq_true rfl) ?_
            refine ct_X6_found (by decide) ?_
            show V_ _ _ _ _ _ _ [_] _
            refine V_ireturn (pc := 96) dX6_copy_96 rfl rfl (fun hR => ?_)
            have h2 := hK _ (by rw [e]; exact h.found (by omega)) (Fm_.rf.ms (by decide))
            rw [e] at h2
            exact h2
      · skip
        have e : nx_copy a 1 i 1 j n = fd2_ a 4 := by rw [ex, if_neg (fun z => z.elim c1 c2), if_pos h59]
        refine V_aload_n (pc := 62) dX6_copy_62 rfl rfl ?_
        refine V_iconst (pc := 63) dX6_copy_63 ?_
        refine V_callV (pc := 64) (as := [_]) (rest := []) dX6_copy_64 ⟨kX6_159, iX6_found, by decide, by decide⟩ rc_0 rfl rfl (Nat.le_of_ble_eq_true rfl) (Nat.le_of_ble_eq_true rfl) ?_
        refine ct_X6_found (by decide) ?_
        show V_ _ _ _ _ _ _ [_] _
        refine V_ireturn (pc := 67) dX6_copy_67 rfl rfl (fun hR => ?_)
        have h2 := hK _ (by rw [e]; exact h.found (by omega)) (Fm_.rf.ms (by decide))
        rw [e] at h2
        exact h2
    · skip
      have e : nx_copy a 1 i 1 j n = fd2_ a 1 := by rw [ex, if_pos (Or.inr (Decidable.byContradiction (fun z => h40 (ct.mpr z))))]
      refine V_aload_n (pc := 43) dX6_copy_43 rfl rfl ?_
      refine V_iconst (pc := 44) dX6_copy_44 ?_
      refine V_callV (pc := 45) (as := [_]) (rest := []) dX6_copy_45 ⟨kX6_159, iX6_found, by decide, by decide⟩ rc_0 rfl rfl (Nat.le_of_ble_eq_true rfl) (Nat.le_of_ble_eq_true rfl) ?_
      refine ct_X6_found (by decide) ?_
      show V_ _ _ _ _ _ _ [_] _
      refine V_ireturn (pc := 48) dX6_copy_48 rfl rfl (fun hR => ?_)
      have h2 := hK _ (by rw [e]; exact h.found (by omega)) (Fm_.rf.ms (by decide))
      rw [e] at h2
      exact h2
theorem ct_X6_copy_13_15 {i j n : Int} (hi : Rg_ i) (hj : Rg_ j) (hn : Rg_ n) (h : CR_ a σ) (hK : ∀ σ1, CR_ (nx_copy a 1 i 2 j n).2 σ1 → Fm_ σ σ1 → post (some (vi_ (nx_copy a 1 i 2 j n).1)) σ1) : V_ l D mX6_copy (CM_ D mX6_copy post) 0 [some (vr_ 0), some (vi_ 1), some (vi_ i), some (vi_ 2), some (vi_ j), some (vi_ n), none, none] [] σ := by
  have hA := h.1.1
  have hW := vv_WF hA
  have hC := h.2.1
  have hD := h.2.2
  have ws := hW.s
  have wn := hW.n
  have wl := hW.l
  have hS : S1_ a σ 1 13 := h.s1 (s := 1) (by decide)
  have hS2 : S1_ a σ 2 15 := h.s1 (s := 2) (by decide)
  have hz := hA.2.2.2.2.2.1 1 (by decide)
  have hz2 := hA.2.2.2.2.2.1 2 (by decide)
  have hRa := hA.2.2.2.2.2.2.2
  have cs : σ 13 1 = 0 ↔ ¬ a 11 1 = -1 := ⟨fun z c => by rw [hS.1 c] at z; exact absurd z (by decide), fun c => (hS.2 c).1⟩
  have ct : σ 15 1 = 0 ↔ ¬ a 11 2 = -1 := ⟨fun z c => by rw [hS2.1 c] at z; exact absurd z (by decide), fun c => (hS2.2 c).1⟩
  have ex : nx_copy a 1 i 2 j n = if a 11 1 = -1 ∨ a 11 2 = -1 then fd2_ a 1 else if a 11 1 ≠ a 11 2 then fd2_ a 4 else if ¬ rg_ i n (a 12 1) ∨ ¬ rg_ j n (a 12 2) then fd2_ a 2 else (1, mc_ a 14 15 i.toNat j.toNat n.toNat) := by unfold nx_copy; rw [if_neg (by omega)]; rfl
  refine V_aload_n (pc := 0) dX6_copy_0 rfl rfl ?_
  refine V_iload_n (pc := 1) dX6_copy_1 rfl rfl ?_
  refine V_callV (pc := 2) (as := [_]) (rest := []) dX6_copy_2 ⟨kX6_151, iX6_sheetAt, by decide, by decide⟩ rc_0 rfl rfl (Nat.le_of_ble_eq_true rfl) (Nat.le_of_ble_eq_true rfl) ?_
  refine ct_X6_sheetAt_13 ?_
  show V_ _ _ _ _ _ _ [_] _
  refine V_astore (pc := 5) dX6_copy_5 (by decide) rfl ?_
  show V_ _ _ _ _ _ [_, _, _, _, _, _, _, _] _ _
  refine V_aload_n (pc := 7) dX6_copy_7 rfl rfl ?_
  refine V_iload_n (pc := 8) dX6_copy_8 rfl rfl ?_
  refine V_callV (pc := 9) (as := [_]) (rest := []) dX6_copy_9 ⟨kX6_151, iX6_sheetAt, by decide, by decide⟩ rc_0 rfl rfl (Nat.le_of_ble_eq_true rfl) (Nat.le_of_ble_eq_true rfl) ?_
  refine ct_X6_sheetAt_15 ?_
  show V_ _ _ _ _ _ _ [_] _
  refine V_astore (pc := 12) dX6_copy_12 (by decide) rfl ?_
  show V_ _ _ _ _ _ [_, _, _, _, _, _, _, _] _ _
  refine V_aload (pc := 14) dX6_copy_14 rfl ?_
  refine V_ifnull (tgt := 24) (pc := 16) dX6_copy_16 (by decide) (fun z => by cases z) (fun _ _ => ?_)
  refine V_aload (pc := 19) dX6_copy_19 rfl ?_
  refine V_ifnonnull (tgt := 27) (pc := 21) dX6_copy_21 (by decide) (fun _ _ => ?_) (fun z => by cases z)
  refine V_aload (pc := 27) dX6_copy_27 rfl ?_
  refine V_geti (pc := 29) dX6_copy_29 fX6_155 rfl gg_13 rfl (fun r29 => ?_)
  refine V_if_ne (tgt := 43) (pc := 32) dX6_copy_32 (by decide) (by first | assumption | decide | omega | exact ba_rg hR | exact b2_rg) (fun h32 => ?_) (fun h32 => ?_)
  · skip
    have e : nx_copy a 1 i 2 j n = fd2_ a 1 := by rw [ex, if_pos (Or.inl (Decidable.byContradiction (fun z => h32 (cs.mpr z))))]
    refine V_aload_n (pc := 43) dX6_copy_43 rfl rfl ?_
    refine V_iconst (pc := 44) dX6_copy_44 ?_
    refine V_callV (pc := 45) (as := [_]) (rest := []) dX6_copy_45 ⟨kX6_159, iX6_found, by decide, by decide⟩ rc_0 rfl rfl (Nat.le_of_ble_eq_true rfl) (Nat.le_of_ble_eq_true rfl) ?_
    refine ct_X6_found (by decide) ?_
    show V_ _ _ _ _ _ _ [_] _
    refine V_ireturn (pc := 48) dX6_copy_48 rfl rfl (fun hR => ?_)
    have h2 := hK _ (by rw [e]; exact h.found (by omega)) (Fm_.rf.ms (by decide))
    rw [e] at h2
    exact h2
  · skip
    have c1 := cs.mp h32
    refine V_aload (pc := 35) dX6_copy_35 rfl ?_
    refine V_geti (pc := 37) dX6_copy_37 fX6_155 rfl gg_15 rfl (fun r37 => ?_)
    refine V_if_eq (tgt := 49) (pc := 40) dX6_copy_40 (by decide) (by first | assumption | decide | omega | exact ba_rg hR | exact b2_rg) (fun h40 => ?_) (fun h40 => ?_)
    · skip
      have c2 := ct.mp h40
      refine V_aload (pc := 49) dX6_copy_49 rfl ?_
      refine V_geti (pc := 51) dX6_copy_51 fX6_264 rfl gg_13 rfl (fun r51 => ?_)
      rw [(hS.2 c1).2.1] at r51 ⊢
      refine V_aload (pc := 54) dX6_copy_54 rfl ?_
      refine V_geti (pc := 56) dX6_copy_56 fX6_264 rfl gg_15 rfl (fun r56 => ?_)
      rw [(hS2.2 c2).2.1] at r56 ⊢
      refine V_icmp_eq (tgt := 68) (pc := 59) dX6_copy_59 (by decide) (by constructor <;> omega) (by constructor <;> omega) (fun h59 => ?_) (fun h59 => ?_)
      · skip
        refine V_aload (pc := 68) dX6_copy_68 rfl ?_
        refine V_iload_n (pc := 70) dX6_copy_70 rfl rfl ?_
        refine V_iload (pc := 71) dX6_copy_71 rfl ?_
        refine V_callV (pc := 73) (as := [_, _]) (rest := []) dX6_copy_73 ⟨kX6_267, iX4_hasRange, by decide, by decide⟩ rc_13 rfl rfl (Nat.le_of_ble_eq_true rfl) (Nat.le_of_ble_eq_true rfl) ?_
        refine ct_X4_hasRange_13 hi hn (hS.2 c1).2.2.1 (by omega) ?_
        show V_ _ _ _ _ _ _ [_] _
        refine V_if_eq (tgt := 91) (pc := 76) dX6_copy_76 (by decide) b2_rg (fun h76 => ?_) (fun h76 => ?_)
        · skip
          rw [b2_0] at h76
          have e : nx_copy a 1 i 2 j n = fd2_ a 2 := by rw [ex, if_neg (fun z => z.elim c1 c2), if_neg (fun z => z h59), if_pos (Or.inl h76)]
          refine V_aload_n (pc := 91) dX6_copy_91 rfl rfl ?_
          refine V_iconst (pc := 92) dX6_copy_92 ?_
          refine V_callV (pc := 93) (as := [_]) (rest := []) dX6_copy_93 ⟨kX6_159, iX6_found, by decide, by decide⟩ rc_0 rfl rfl (Nat.le_of_ble_eq_true rfl) (Nat.le_of_ble_eq_true rfl) ?_
          refine ct_X6_found (by decide) ?_
          show V_ _ _ _ _ _ _ [_] _
          refine V_ireturn (pc := 96) dX6_copy_96 rfl rfl (fun hR => ?_)
          have h2 := hK _ (by rw [e]; exact h.found (by omega)) (Fm_.rf.ms (by decide))
          rw [e] at h2
          exact h2
        · skip
          rw [b2_n0] at h76
          refine V_aload (pc := 79) dX6_copy_79 rfl ?_
          refine V_iload (pc := 81) dX6_copy_81 rfl ?_
          refine V_iload (pc := 83) dX6_copy_83 rfl ?_
          refine V_callV (pc := 85) (as := [_, _]) (rest := []) dX6_copy_85 ⟨kX6_267, iX4_hasRange, by decide, by decide⟩ rc_15 rfl rfl (Nat.le_of_ble_eq_true rfl) (Nat.le_of_ble_eq_true rfl) ?_
          refine ct_X4_hasRange_15 hj hn (hS2.2 c2).2.2.1 (by omega) ?_
          show V_ _ _ _ _ _ _ [_] _
          refine V_if_ne (tgt := 97) (pc := 88) dX6_copy_88 (by decide) b2_rg (fun h88 => ?_) (fun h88 => ?_)
          · skip
            rw [b2_n0] at h88
            have e : nx_copy a 1 i 2 j n = (1, mc_ a 14 15 i.toNat j.toNat n.toNat) := by rw [ex, if_neg (fun z => z.elim c1 c2), if_neg (fun z => z h59), if_neg (fun z => z.elim (fun z => z h76) (fun z => z h88))]
            refine V_aload (pc := 97) dX6_copy_97 rfl ?_
            refine V_getr (pc := 99) dX6_copy_99 fX6_164 rfl gg_13 rfl ?_
            refine V_iload_n (pc := 102) dX6_copy_102 rfl rfl ?_
            refine V_aload (pc := 103) dX6_copy_103 rfl ?_
            refine V_getr (pc := 105) dX6_copy_105 fX6_164 rfl gg_15 rfl ?_
            refine V_iload (pc := 108) dX6_copy_108 rfl ?_
            refine V_iload (pc := 110) dX6_copy_110 rfl ?_
            refine V_copy (pc := 112) dX6_copy_112 kX6_270 ⟨by decide, by first | decide | exact Nat.le_of_ble_eq_true rfl⟩ gg_14 gg_16 (by have : ((60 : Nat) : Int) = 60 := rfl; omega) (by decide) (by decide) ?_
            refine V_iconst (pc := 115) dX6_copy_115 ?_
            refine V_ireturn (pc := 116) dX6_copy_116 rfl rfl (fun hR => ?_)
            have hcr : CR_ (mc_ a 14 15 i.toNat j.toNat n.toNat) (mc_ σ 14 16 i.toNat j.toNat n.toNat) := by
              refine h.sht (s := 2) (k := 15) rfl (by decide) ⟨fun q hq => by rw [mc_rw (by decide), mc_rw (by decide)]; exact hA.2.2.2.2.2.1 q hq, hRa.mc⟩ (fun q q1 q2 => mc_rw q2) (fun q q1 q2 q3 => mc_rw q3) (fun q hq => by rw [mc_rw (by decide), mc_rw (by decide)]; exact ⟨rfl, rfl⟩) ⟨fun z => ?_, fun z => ⟨?_, ?_, ?_, fun q hq => ?_⟩⟩
              · rw [mc_rw (by decide)] at z; exact absurd z c2
              · rw [mc_rw (by decide)]; exact (hS2.2 c2).1
              · rw [mc_rw (by decide), mc_rw (by decide)]; exact (hS2.2 c2).2.1
              · rw [mc_rw (by decide), mc_rw (by decide)]; exact (hS2.2 c2).2.2.1
              · rw [mc_rw (by decide)] at hq
                show mc_ σ 14 16 i.toNat j.toNat n.toNat 16 q = mc_ a 14 15 i.toNat j.toNat n.toNat 15 q
                unfold mc_
                by_cases c : j.toNat ≤ q ∧ q < j.toNat + n.toNat
                · rw [if_pos ⟨rfl, c⟩, if_pos ⟨rfl, c⟩]
                  exact (hS.2 c1).2.2.2 _ (by omega)
                · rw [if_neg (fun z => c z.2), if_neg (fun z => c z.2)]
                  exact (hS2.2 c2).2.2.2 q hq
            have h2 := hK _ (by rw [e]; exact hcr) (fun q hq => mc_rw (by omega))
            rw [e] at h2
            exact h2
          · skip
            rw [b2_0] at h88
            have e : nx_copy a 1 i 2 j n = fd2_ a 2 := by rw [ex, if_neg (fun z => z.elim c1 c2), if_neg (fun z => z h59), if_pos (Or.inr h88)]
            refine V_aload_n (pc := 91) dX6_copy_91 rfl rfl ?_
            refine V_iconst (pc := 92) dX6_copy_92 ?_
            refine V_callV (pc := 93) (as := [_]) (rest := []) dX6_copy_93 ⟨kX6_159, iX6_found, by decide, by decide⟩ rc_0 rfl rfl (Nat.le_of_ble_eq_true rfl) (Nat.le_of_ble_eq_true rfl) ?_
            refine ct_X6_found (by decide) ?_
            show V_ _ _ _ _ _ _ [_] _
            refine V_ireturn (pc := 96) dX6_copy_96 rfl rfl (fun hR => ?_)
            have h2 := hK _ (by rw [e]; exact h.found (by omega)) (Fm_.rf.ms (by decide))
            rw [e] at h2
            exact h2
      · skip
        have e : nx_copy a 1 i 2 j n = fd2_ a 4 := by rw [ex, if_neg (fun z => z.elim c1 c2), if_pos h59]
        refine V_aload_n (pc := 62) dX6_copy_62 rfl rfl ?_
        refine V_iconst (pc := 63) dX6_copy_63 ?_
        refine V_callV (pc := 64) (as := [_]) (rest := []) dX6_copy_64 ⟨kX6_159, iX6_found, by decide, by decide⟩ rc_0 rfl rfl (Nat.le_of_ble_eq_true rfl) (Nat.le_of_ble_eq_true rfl) ?_
        refine ct_X6_found (by decide) ?_
        show V_ _ _ _ _ _ _ [_] _
        refine V_ireturn (pc := 67) dX6_copy_67 rfl rfl (fun hR => ?_)
        have h2 := hK _ (by rw [e]; exact h.found (by omega)) (Fm_.rf.ms (by decide))
        rw [e] at h2
        exact h2
    · skip
      have e : nx_copy a 1 i 2 j n = fd2_ a 1 := by rw [ex, if_pos (Or.inr (Decidable.byContradiction (fun z => h40 (ct.mpr z))))]
      refine V_aload_n (pc := 43) dX6_copy_43 rfl rfl ?_
      refine V_iconst (pc := 44) dX6_copy_44 ?_
      refine V_callV (pc := 45) (as := [_]) (rest := []) dX6_copy_45 ⟨kX6_159, iX6_found, by decide, by decide⟩ rc_0 rfl rfl (Nat.le_of_ble_eq_true rfl) (Nat.le_of_ble_eq_true rfl) ?_
      refine ct_X6_found (by decide) ?_
      show V_ _ _ _ _ _ _ [_] _
      refine V_ireturn (pc := 48) dX6_copy_48 rfl rfl (fun hR => ?_)
      have h2 := hK _ (by rw [e]; exact h.found (by omega)) (Fm_.rf.ms (by decide))
      rw [e] at h2
      exact h2
theorem ct_X6_copy_13_17 {i j n : Int} (hi : Rg_ i) (hj : Rg_ j) (hn : Rg_ n) (h : CR_ a σ) (hK : ∀ σ1, CR_ (nx_copy a 1 i 3 j n).2 σ1 → Fm_ σ σ1 → post (some (vi_ (nx_copy a 1 i 3 j n).1)) σ1) : V_ l D mX6_copy (CM_ D mX6_copy post) 0 [some (vr_ 0), some (vi_ 1), some (vi_ i), some (vi_ 3), some (vi_ j), some (vi_ n), none, none] [] σ := by
  have hA := h.1.1
  have hW := vv_WF hA
  have hC := h.2.1
  have hD := h.2.2
  have ws := hW.s
  have wn := hW.n
  have wl := hW.l
  have hS : S1_ a σ 1 13 := h.s1 (s := 1) (by decide)
  have hS2 : S1_ a σ 3 17 := h.s1 (s := 3) (by decide)
  have hz := hA.2.2.2.2.2.1 1 (by decide)
  have hz2 := hA.2.2.2.2.2.1 3 (by decide)
  have hRa := hA.2.2.2.2.2.2.2
  have cs : σ 13 1 = 0 ↔ ¬ a 11 1 = -1 := ⟨fun z c => by rw [hS.1 c] at z; exact absurd z (by decide), fun c => (hS.2 c).1⟩
  have ct : σ 17 1 = 0 ↔ ¬ a 11 3 = -1 := ⟨fun z c => by rw [hS2.1 c] at z; exact absurd z (by decide), fun c => (hS2.2 c).1⟩
  have ex : nx_copy a 1 i 3 j n = if a 11 1 = -1 ∨ a 11 3 = -1 then fd2_ a 1 else if a 11 1 ≠ a 11 3 then fd2_ a 4 else if ¬ rg_ i n (a 12 1) ∨ ¬ rg_ j n (a 12 3) then fd2_ a 2 else (1, mc_ a 14 16 i.toNat j.toNat n.toNat) := by unfold nx_copy; rw [if_neg (by omega)]; rfl
  refine V_aload_n (pc := 0) dX6_copy_0 rfl rfl ?_
  refine V_iload_n (pc := 1) dX6_copy_1 rfl rfl ?_
  refine V_callV (pc := 2) (as := [_]) (rest := []) dX6_copy_2 ⟨kX6_151, iX6_sheetAt, by decide, by decide⟩ rc_0 rfl rfl (Nat.le_of_ble_eq_true rfl) (Nat.le_of_ble_eq_true rfl) ?_
  refine ct_X6_sheetAt_13 ?_
  show V_ _ _ _ _ _ _ [_] _
  refine V_astore (pc := 5) dX6_copy_5 (by decide) rfl ?_
  show V_ _ _ _ _ _ [_, _, _, _, _, _, _, _] _ _
  refine V_aload_n (pc := 7) dX6_copy_7 rfl rfl ?_
  refine V_iload_n (pc := 8) dX6_copy_8 rfl rfl ?_
  refine V_callV (pc := 9) (as := [_]) (rest := []) dX6_copy_9 ⟨kX6_151, iX6_sheetAt, by decide, by decide⟩ rc_0 rfl rfl (Nat.le_of_ble_eq_true rfl) (Nat.le_of_ble_eq_true rfl) ?_
  refine ct_X6_sheetAt_17 ?_
  show V_ _ _ _ _ _ _ [_] _
  refine V_astore (pc := 12) dX6_copy_12 (by decide) rfl ?_
  show V_ _ _ _ _ _ [_, _, _, _, _, _, _, _] _ _
  refine V_aload (pc := 14) dX6_copy_14 rfl ?_
  refine V_ifnull (tgt := 24) (pc := 16) dX6_copy_16 (by decide) (fun z => by cases z) (fun _ _ => ?_)
  refine V_aload (pc := 19) dX6_copy_19 rfl ?_
  refine V_ifnonnull (tgt := 27) (pc := 21) dX6_copy_21 (by decide) (fun _ _ => ?_) (fun z => by cases z)
  refine V_aload (pc := 27) dX6_copy_27 rfl ?_
  refine V_geti (pc := 29) dX6_copy_29 fX6_155 rfl gg_13 rfl (fun r29 => ?_)
  refine V_if_ne (tgt := 43) (pc := 32) dX6_copy_32 (by decide) (by first | assumption | decide | omega | exact ba_rg hR | exact b2_rg) (fun h32 => ?_) (fun h32 => ?_)
  · skip
    have e : nx_copy a 1 i 3 j n = fd2_ a 1 := by rw [ex, if_pos (Or.inl (Decidable.byContradiction (fun z => h32 (cs.mpr z))))]
    refine V_aload_n (pc := 43) dX6_copy_43 rfl rfl ?_
    refine V_iconst (pc := 44) dX6_copy_44 ?_
    refine V_callV (pc := 45) (as := [_]) (rest := []) dX6_copy_45 ⟨kX6_159, iX6_found, by decide, by decide⟩ rc_0 rfl rfl (Nat.le_of_ble_eq_true rfl) (Nat.le_of_ble_eq_true rfl) ?_
    refine ct_X6_found (by decide) ?_
    show V_ _ _ _ _ _ _ [_] _
    refine V_ireturn (pc := 48) dX6_copy_48 rfl rfl (fun hR => ?_)
    have h2 := hK _ (by rw [e]; exact h.found (by omega)) (Fm_.rf.ms (by decide))
    rw [e] at h2
    exact h2
  · skip
    have c1 := cs.mp h32
    refine V_aload (pc := 35) dX6_copy_35 rfl ?_
    refine V_geti (pc := 37) dX6_copy_37 fX6_155 rfl gg_17 rfl (fun r37 => ?_)
    refine V_if_eq (tgt := 49) (pc := 40) dX6_copy_40 (by decide) (by first | assumption | decide | omega | exact ba_rg hR | exact b2_rg) (fun h40 => ?_) (fun h40 => ?_)
    · skip
      have c2 := ct.mp h40
      refine V_aload (pc := 49) dX6_copy_49 rfl ?_
      refine V_geti (pc := 51) dX6_copy_51 fX6_264 rfl gg_13 rfl (fun r51 => ?_)
      rw [(hS.2 c1).2.1] at r51 ⊢
      refine V_aload (pc := 54) dX6_copy_54 rfl ?_
      refine V_geti (pc := 56) dX6_copy_56 fX6_264 rfl gg_17 rfl (fun r56 => ?_)
      rw [(hS2.2 c2).2.1] at r56 ⊢
      refine V_icmp_eq (tgt := 68) (pc := 59) dX6_copy_59 (by decide) (by constructor <;> omega) (by constructor <;> omega) (fun h59 => ?_) (fun h59 => ?_)
      · skip
        refine V_aload (pc := 68) dX6_copy_68 rfl ?_
        refine V_iload_n (pc := 70) dX6_copy_70 rfl rfl ?_
        refine V_iload (pc := 71) dX6_copy_71 rfl ?_
        refine V_callV (pc := 73) (as := [_, _]) (rest := []) dX6_copy_73 ⟨kX6_267, iX4_hasRange, by decide, by decide⟩ rc_13 rfl rfl (Nat.le_of_ble_eq_true rfl) (Nat.le_of_ble_eq_true rfl) ?_
        refine ct_X4_hasRange_13 hi hn (hS.2 c1).2.2.1 (by omega) ?_
        show V_ _ _ _ _ _ _ [_] _
        refine V_if_eq (tgt := 91) (pc := 76) dX6_copy_76 (by decide) b2_rg (fun h76 => ?_) (fun h76 => ?_)
        · skip
          rw [b2_0] at h76
          have e : nx_copy a 1 i 3 j n = fd2_ a 2 := by rw [ex, if_neg (fun z => z.elim c1 c2), if_neg (fun z => z h59), if_pos (Or.inl h76)]
          refine V_aload_n (pc := 91) dX6_copy_91 rfl rfl ?_
          refine V_iconst (pc := 92) dX6_copy_92 ?_
          refine V_callV (pc := 93) (as := [_]) (rest := []) dX6_copy_93 ⟨kX6_159, iX6_found, by decide, by decide⟩ rc_0 rfl rfl (Nat.le_of_ble_eq_true rfl) (Nat.le_of_ble_eq_true rfl) ?_
          refine ct_X6_found (by decide) ?_
          show V_ _ _ _ _ _ _ [_] _
          refine V_ireturn (pc := 96) dX6_copy_96 rfl rfl (fun hR => ?_)
          have h2 := hK _ (by rw [e]; exact h.found (by omega)) (Fm_.rf.ms (by decide))
          rw [e] at h2
          exact h2
        · skip
          rw [b2_n0] at h76
          refine V_aload (pc := 79) dX6_copy_79 rfl ?_
          refine V_iload (pc := 81) dX6_copy_81 rfl ?_
          refine V_iload (pc := 83) dX6_copy_83 rfl ?_
          refine V_callV (pc := 85) (as := [_, _]) (rest := []) dX6_copy_85 ⟨kX6_267, iX4_hasRange, by decide, by decide⟩ rc_17 rfl rfl (Nat.le_of_ble_eq_true rfl) (Nat.le_of_ble_eq_true rfl) ?_
          refine ct_X4_hasRange_17 hj hn (hS2.2 c2).2.2.1 (by omega) ?_
          show V_ _ _ _ _ _ _ [_] _
          refine V_if_ne (tgt := 97) (pc := 88) dX6_copy_88 (by decide) b2_rg (fun h88 => ?_) (fun h88 => ?_)
          · skip
            rw [b2_n0] at h88
            have e : nx_copy a 1 i 3 j n = (1, mc_ a 14 16 i.toNat j.toNat n.toNat) := by rw [ex, if_neg (fun z => z.elim c1 c2), if_neg (fun z => z h59), if_neg (fun z => z.elim (fun z => z h76) (fun z => z h88))]
            refine V_aload (pc := 97) dX6_copy_97 rfl ?_
            refine V_getr (pc := 99) dX6_copy_99 fX6_164 rfl gg_13 rfl ?_
            refine V_iload_n (pc := 102) dX6_copy_102 rfl rfl ?_
            refine V_aload (pc := 103) dX6_copy_103 rfl ?_
            refine V_getr (pc := 105) dX6_copy_105 fX6_164 rfl gg_17 rfl ?_
            refine V_iload (pc := 108) dX6_copy_108 rfl ?_
            refine V_iload (pc := 110) dX6_copy_110 rfl ?_
            refine V_copy (pc := 112) dX6_copy_112 kX6_270 ⟨by decide, by first | decide | exact Nat.le_of_ble_eq_true rfl⟩ gg_14 gg_18 (by have : ((60 : Nat) : Int) = 60 := rfl; omega) (by decide) (by decide) ?_
            refine V_iconst (pc := 115) dX6_copy_115 ?_
            refine V_ireturn (pc := 116) dX6_copy_116 rfl rfl (fun hR => ?_)
            have hcr : CR_ (mc_ a 14 16 i.toNat j.toNat n.toNat) (mc_ σ 14 18 i.toNat j.toNat n.toNat) := by
              refine h.sht (s := 3) (k := 17) rfl (by decide) ⟨fun q hq => by rw [mc_rw (by decide), mc_rw (by decide)]; exact hA.2.2.2.2.2.1 q hq, hRa.mc⟩ (fun q q1 q2 => mc_rw q2) (fun q q1 q2 q3 => mc_rw q3) (fun q hq => by rw [mc_rw (by decide), mc_rw (by decide)]; exact ⟨rfl, rfl⟩) ⟨fun z => ?_, fun z => ⟨?_, ?_, ?_, fun q hq => ?_⟩⟩
              · rw [mc_rw (by decide)] at z; exact absurd z c2
              · rw [mc_rw (by decide)]; exact (hS2.2 c2).1
              · rw [mc_rw (by decide), mc_rw (by decide)]; exact (hS2.2 c2).2.1
              · rw [mc_rw (by decide), mc_rw (by decide)]; exact (hS2.2 c2).2.2.1
              · rw [mc_rw (by decide)] at hq
                show mc_ σ 14 18 i.toNat j.toNat n.toNat 18 q = mc_ a 14 16 i.toNat j.toNat n.toNat 16 q
                unfold mc_
                by_cases c : j.toNat ≤ q ∧ q < j.toNat + n.toNat
                · rw [if_pos ⟨rfl, c⟩, if_pos ⟨rfl, c⟩]
                  exact (hS.2 c1).2.2.2 _ (by omega)
                · rw [if_neg (fun z => c z.2), if_neg (fun z => c z.2)]
                  exact (hS2.2 c2).2.2.2 q hq
            have h2 := hK _ (by rw [e]; exact hcr) (fun q hq => mc_rw (by omega))
            rw [e] at h2
            exact h2
          · skip
            rw [b2_0] at h88
            have e : nx_copy a 1 i 3 j n = fd2_ a 2 := by rw [ex, if_neg (fun z => z.elim c1 c2), if_neg (fun z => z h59), if_pos (Or.inr h88)]
            refine V_aload_n (pc := 91) dX6_copy_91 rfl rfl ?_
            refine V_iconst (pc := 92) dX6_copy_92 ?_
            refine V_callV (pc := 93) (as := [_]) (rest := []) dX6_copy_93 ⟨kX6_159, iX6_found, by decide, by decide⟩ rc_0 rfl rfl (Nat.le_of_ble_eq_true rfl) (Nat.le_of_ble_eq_true rfl) ?_
            refine ct_X6_found (by decide) ?_
            show V_ _ _ _ _ _ _ [_] _
            refine V_ireturn (pc := 96) dX6_copy_96 rfl rfl (fun hR => ?_)
            have h2 := hK _ (by rw [e]; exact h.found (by omega)) (Fm_.rf.ms (by decide))
            rw [e] at h2
            exact h2
      · skip
        have e : nx_copy a 1 i 3 j n = fd2_ a 4 := by rw [ex, if_neg (fun z => z.elim c1 c2), if_pos h59]
        refine V_aload_n (pc := 62) dX6_copy_62 rfl rfl ?_
        refine V_iconst (pc := 63) dX6_copy_63 ?_
        refine V_callV (pc := 64) (as := [_]) (rest := []) dX6_copy_64 ⟨kX6_159, iX6_found, by decide, by decide⟩ rc_0 rfl rfl (Nat.le_of_ble_eq_true rfl) (Nat.le_of_ble_eq_true rfl) ?_
        refine ct_X6_found (by decide) ?_
        show V_ _ _ _ _ _ _ [_] _
        refine V_ireturn (pc := 67) dX6_copy_67 rfl rfl (fun hR => ?_)
        have h2 := hK _ (by rw [e]; exact h.found (by omega)) (Fm_.rf.ms (by decide))
        rw [e] at h2
        exact h2
    · skip
      have e : nx_copy a 1 i 3 j n = fd2_ a 1 := by rw [ex, if_pos (Or.inr (Decidable.byContradiction (fun z => h40 (ct.mpr z))))]
      refine V_aload_n (pc := 43) dX6_copy_43 rfl rfl ?_
      refine V_iconst (pc := 44) dX6_copy_44 ?_
      refine V_callV (pc := 45) (as := [_]) (rest := []) dX6_copy_45 ⟨kX6_159, iX6_found, by decide, by decide⟩ rc_0 rfl rfl (Nat.le_of_ble_eq_true rfl) (Nat.le_of_ble_eq_true rfl) ?_
      refine ct_X6_found (by decide) ?_
      show V_ _ _ _ _ _ _ [_] _
      refine V_ireturn (pc := 48) dX6_copy_48 rfl rfl (fun hR => ?_)
      have h2 := hK _ (by rw [e]; exact h.found (by omega)) (Fm_.rf.ms (by decide))
      rw [e] at h2
      exact h2
theorem ct_X6_copy_15_11 {i j n : Int} (hi : Rg_ i) (hj : Rg_ j) (hn : Rg_ n) (h : CR_ a σ) (hK : ∀ σ1, CR_ (nx_copy a 2 i 0 j n).2 σ1 → Fm_ σ σ1 → post (some (vi_ (nx_copy a 2 i 0 j n).1)) σ1) : V_ l D mX6_copy (CM_ D mX6_copy post) 0 [some (vr_ 0), some (vi_ 2), some (vi_ i), some (vi_ 0), some (vi_ j), some (vi_ n), none, none] [] σ := by
  have hA := h.1.1
  have hW := vv_WF hA
  have hC := h.2.1
  have hD := h.2.2
  have ws := hW.s
  have wn := hW.n
  have wl := hW.l
  have hS : S1_ a σ 2 15 := h.s1 (s := 2) (by decide)
  have hS2 : S1_ a σ 0 11 := h.s1 (s := 0) (by decide)
  have hz := hA.2.2.2.2.2.1 2 (by decide)
  have hz2 := hA.2.2.2.2.2.1 0 (by decide)
  have hRa := hA.2.2.2.2.2.2.2
  have cs : σ 15 1 = 0 ↔ ¬ a 11 2 = -1 := ⟨fun z c => by rw [hS.1 c] at z; exact absurd z (by decide), fun c => (hS.2 c).1⟩
  have ct : σ 11 1 = 0 ↔ ¬ a 11 0 = -1 := ⟨fun z c => by rw [hS2.1 c] at z; exact absurd z (by decide), fun c => (hS2.2 c).1⟩
  have ex : nx_copy a 2 i 0 j n = if a 11 2 = -1 ∨ a 11 0 = -1 then fd2_ a 1 else if a 11 2 ≠ a 11 0 then fd2_ a 4 else if ¬ rg_ i n (a 12 2) ∨ ¬ rg_ j n (a 12 0) then fd2_ a 2 else (1, mc_ a 15 13 i.toNat j.toNat n.toNat) := by unfold nx_copy; rw [if_neg (by omega)]; rfl
  refine V_aload_n (pc := 0) dX6_copy_0 rfl rfl ?_
  refine V_iload_n (pc := 1) dX6_copy_1 rfl rfl ?_
  refine V_callV (pc := 2) (as := [_]) (rest := []) dX6_copy_2 ⟨kX6_151, iX6_sheetAt, by decide, by decide⟩ rc_0 rfl rfl (Nat.le_of_ble_eq_true rfl) (Nat.le_of_ble_eq_true rfl) ?_
  refine ct_X6_sheetAt_15 ?_
  show V_ _ _ _ _ _ _ [_] _
  refine V_astore (pc := 5) dX6_copy_5 (by decide) rfl ?_
  show V_ _ _ _ _ _ [_, _, _, _, _, _, _, _] _ _
  refine V_aload_n (pc := 7) dX6_copy_7 rfl rfl ?_
  refine V_iload_n (pc := 8) dX6_copy_8 rfl rfl ?_
  refine V_callV (pc := 9) (as := [_]) (rest := []) dX6_copy_9 ⟨kX6_151, iX6_sheetAt, by decide, by decide⟩ rc_0 rfl rfl (Nat.le_of_ble_eq_true rfl) (Nat.le_of_ble_eq_true rfl) ?_
  refine ct_X6_sheetAt_11 ?_
  show V_ _ _ _ _ _ _ [_] _
  refine V_astore (pc := 12) dX6_copy_12 (by decide) rfl ?_
  show V_ _ _ _ _ _ [_, _, _, _, _, _, _, _] _ _
  refine V_aload (pc := 14) dX6_copy_14 rfl ?_
  refine V_ifnull (tgt := 24) (pc := 16) dX6_copy_16 (by decide) (fun z => by cases z) (fun _ _ => ?_)
  refine V_aload (pc := 19) dX6_copy_19 rfl ?_
  refine V_ifnonnull (tgt := 27) (pc := 21) dX6_copy_21 (by decide) (fun _ _ => ?_) (fun z => by cases z)
  refine V_aload (pc := 27) dX6_copy_27 rfl ?_
  refine V_geti (pc := 29) dX6_copy_29 fX6_155 rfl gg_15 rfl (fun r29 => ?_)
  refine V_if_ne (tgt := 43) (pc := 32) dX6_copy_32 (by decide) (by first | assumption | decide | omega | exact ba_rg hR | exact b2_rg) (fun h32 => ?_) (fun h32 => ?_)
  · skip
    have e : nx_copy a 2 i 0 j n = fd2_ a 1 := by rw [ex, if_pos (Or.inl (Decidable.byContradiction (fun z => h32 (cs.mpr z))))]
    refine V_aload_n (pc := 43) dX6_copy_43 rfl rfl ?_
    refine V_iconst (pc := 44) dX6_copy_44 ?_
    refine V_callV (pc := 45) (as := [_]) (rest := []) dX6_copy_45 ⟨kX6_159, iX6_found, by decide, by decide⟩ rc_0 rfl rfl (Nat.le_of_ble_eq_true rfl) (Nat.le_of_ble_eq_true rfl) ?_
    refine ct_X6_found (by decide) ?_
    show V_ _ _ _ _ _ _ [_] _
    refine V_ireturn (pc := 48) dX6_copy_48 rfl rfl (fun hR => ?_)
    have h2 := hK _ (by rw [e]; exact h.found (by omega)) (Fm_.rf.ms (by decide))
    rw [e] at h2
    exact h2
  · skip
    have c1 := cs.mp h32
    refine V_aload (pc := 35) dX6_copy_35 rfl ?_
    refine V_geti (pc := 37) dX6_copy_37 fX6_155 rfl gg_11 rfl (fun r37 => ?_)
    refine V_if_eq (tgt := 49) (pc := 40) dX6_copy_40 (by decide) (by first | assumption | decide | omega | exact ba_rg hR | exact b2_rg) (fun h40 => ?_) (fun h40 => ?_)
    · skip
      have c2 := ct.mp h40
      refine V_aload (pc := 49) dX6_copy_49 rfl ?_
      refine V_geti (pc := 51) dX6_copy_51 fX6_264 rfl gg_15 rfl (fun r51 => ?_)
      rw [(hS.2 c1).2.1] at r51 ⊢
      refine V_aload (pc := 54) dX6_copy_54 rfl ?_
      refine V_geti (pc := 56) dX6_copy_56 fX6_264 rfl gg_11 rfl (fun r56 => ?_)
      rw [(hS2.2 c2).2.1] at r56 ⊢
      refine V_icmp_eq (tgt := 68) (pc := 59) dX6_copy_59 (by decide) (by constructor <;> omega) (by constructor <;> omega) (fun h59 => ?_) (fun h59 => ?_)
      · skip
        refine V_aload (pc := 68) dX6_copy_68 rfl ?_
        refine V_iload_n (pc := 70) dX6_copy_70 rfl rfl ?_
        refine V_iload (pc := 71) dX6_copy_71 rfl ?_
        refine V_callV (pc := 73) (as := [_, _]) (rest := []) dX6_copy_73 ⟨kX6_267, iX4_hasRange, by decide, by decide⟩ rc_15 rfl rfl (Nat.le_of_ble_eq_true rfl) (Nat.le_of_ble_eq_true rfl) ?_
        refine ct_X4_hasRange_15 hi hn (hS.2 c1).2.2.1 (by omega) ?_
        show V_ _ _ _ _ _ _ [_] _
        refine V_if_eq (tgt := 91) (pc := 76) dX6_copy_76 (by decide) b2_rg (fun h76 => ?_) (fun h76 => ?_)
        · skip
          rw [b2_0] at h76
          have e : nx_copy a 2 i 0 j n = fd2_ a 2 := by rw [ex, if_neg (fun z => z.elim c1 c2), if_neg (fun z => z h59), if_pos (Or.inl h76)]
          refine V_aload_n (pc := 91) dX6_copy_91 rfl rfl ?_
          refine V_iconst (pc := 92) dX6_copy_92 ?_
          refine V_callV (pc := 93) (as := [_]) (rest := []) dX6_copy_93 ⟨kX6_159, iX6_found, by decide, by decide⟩ rc_0 rfl rfl (Nat.le_of_ble_eq_true rfl) (Nat.le_of_ble_eq_true rfl) ?_
          refine ct_X6_found (by decide) ?_
          show V_ _ _ _ _ _ _ [_] _
          refine V_ireturn (pc := 96) dX6_copy_96 rfl rfl (fun hR => ?_)
          have h2 := hK _ (by rw [e]; exact h.found (by omega)) (Fm_.rf.ms (by decide))
          rw [e] at h2
          exact h2
        · skip
          rw [b2_n0] at h76
          refine V_aload (pc := 79) dX6_copy_79 rfl ?_
          refine V_iload (pc := 81) dX6_copy_81 rfl ?_
          refine V_iload (pc := 83) dX6_copy_83 rfl ?_
          refine V_callV (pc := 85) (as := [_, _]) (rest := []) dX6_copy_85 ⟨kX6_267, iX4_hasRange, by decide, by decide⟩ rc_11 rfl rfl (Nat.le_of_ble_eq_true rfl) (Nat.le_of_ble_eq_true rfl) ?_
          refine ct_X4_hasRange_11 hj hn (hS2.2 c2).2.2.1 (by omega) ?_
          show V_ _ _ _ _ _ _ [_] _
          refine V_if_ne (tgt := 97) (pc := 88) dX6_copy_88 (by decide) b2_rg (fun h88 => ?_) (fun h88 => ?_)
          · skip
            rw [b2_n0] at h88
            have e : nx_copy a 2 i 0 j n = (1, mc_ a 15 13 i.toNat j.toNat n.toNat) := by rw [ex, if_neg (fun z => z.elim c1 c2), if_neg (fun z => z h59), if_neg (fun z => z.elim (fun z => z h76) (fun z => z h88))]
            refine V_aload (pc := 97) dX6_copy_97 rfl ?_
            refine V_getr (pc := 99) dX6_copy_99 fX6_164 rfl gg_15 rfl ?_
            refine V_iload_n (pc := 102) dX6_copy_102 rfl rfl ?_
            refine V_aload (pc := 103) dX6_copy_103 rfl ?_
            refine V_getr (pc := 105) dX6_copy_105 fX6_164 rfl gg_11 rfl ?_
            refine V_iload (pc := 108) dX6_copy_108 rfl ?_
            refine V_iload (pc := 110) dX6_copy_110 rfl ?_
            refine V_copy (pc := 112) dX6_copy_112 kX6_270 ⟨by decide, by first | decide | exact Nat.le_of_ble_eq_true rfl⟩ gg_16 gg_12 (by have : ((60 : Nat) : Int) = 60 := rfl; omega) (by decide) (by decide) ?_
            refine V_iconst (pc := 115) dX6_copy_115 ?_
            refine V_ireturn (pc := 116) dX6_copy_116 rfl rfl (fun hR => ?_)
            have hcr : CR_ (mc_ a 15 13 i.toNat j.toNat n.toNat) (mc_ σ 16 12 i.toNat j.toNat n.toNat) := by
              refine h.sht (s := 0) (k := 11) rfl (by decide) ⟨fun q hq => by rw [mc_rw (by decide), mc_rw (by decide)]; exact hA.2.2.2.2.2.1 q hq, hRa.mc⟩ (fun q q1 q2 => mc_rw q2) (fun q q1 q2 q3 => mc_rw q3) (fun q hq => by rw [mc_rw (by decide), mc_rw (by decide)]; exact ⟨rfl, rfl⟩) ⟨fun z => ?_, fun z => ⟨?_, ?_, ?_, fun q hq => ?_⟩⟩
              · rw [mc_rw (by decide)] at z; exact absurd z c2
              · rw [mc_rw (by decide)]; exact (hS2.2 c2).1
              · rw [mc_rw (by decide), mc_rw (by decide)]; exact (hS2.2 c2).2.1
              · rw [mc_rw (by decide), mc_rw (by decide)]; exact (hS2.2 c2).2.2.1
              · rw [mc_rw (by decide)] at hq
                show mc_ σ 16 12 i.toNat j.toNat n.toNat 12 q = mc_ a 15 13 i.toNat j.toNat n.toNat 13 q
                unfold mc_
                by_cases c : j.toNat ≤ q ∧ q < j.toNat + n.toNat
                · rw [if_pos ⟨rfl, c⟩, if_pos ⟨rfl, c⟩]
                  exact (hS.2 c1).2.2.2 _ (by omega)
                · rw [if_neg (fun z => c z.2), if_neg (fun z => c z.2)]
                  exact (hS2.2 c2).2.2.2 q hq
            have h2 := hK _ (by rw [e]; exact hcr) (fun q hq => mc_rw (by omega))
            rw [e] at h2
            exact h2
          · skip
            rw [b2_0] at h88
            have e : nx_copy a 2 i 0 j n = fd2_ a 2 := by rw [ex, if_neg (fun z => z.elim c1 c2), if_neg (fun z => z h59), if_pos (Or.inr h88)]
            refine V_aload_n (pc := 91) dX6_copy_91 rfl rfl ?_
            refine V_iconst (pc := 92) dX6_copy_92 ?_
            refine V_callV (pc := 93) (as := [_]) (rest := []) dX6_copy_93 ⟨kX6_159, iX6_found, by decide, by decide⟩ rc_0 rfl rfl (Nat.le_of_ble_eq_true rfl) (Nat.le_of_ble_eq_true rfl) ?_
            refine ct_X6_found (by decide) ?_
            show V_ _ _ _ _ _ _ [_] _
            refine V_ireturn (pc := 96) dX6_copy_96 rfl rfl (fun hR => ?_)
            have h2 := hK _ (by rw [e]; exact h.found (by omega)) (Fm_.rf.ms (by decide))
            rw [e] at h2
            exact h2
      · skip
        have e : nx_copy a 2 i 0 j n = fd2_ a 4 := by rw [ex, if_neg (fun z => z.elim c1 c2), if_pos h59]
        refine V_aload_n (pc := 62) dX6_copy_62 rfl rfl ?_
        refine V_iconst (pc := 63) dX6_copy_63 ?_
        refine V_callV (pc := 64) (as := [_]) (rest := []) dX6_copy_64 ⟨kX6_159, iX6_found, by decide, by decide⟩ rc_0 rfl rfl (Nat.le_of_ble_eq_true rfl) (Nat.le_of_ble_eq_true rfl) ?_
        refine ct_X6_found (by decide) ?_
        show V_ _ _ _ _ _ _ [_] _
        refine V_ireturn (pc := 67) dX6_copy_67 rfl rfl (fun hR => ?_)
        have h2 := hK _ (by rw [e]; exact h.found (by omega)) (Fm_.rf.ms (by decide))
        rw [e] at h2
        exact h2
    · skip
      have e : nx_copy a 2 i 0 j n = fd2_ a 1 := by rw [ex, if_pos (Or.inr (Decidable.byContradiction (fun z => h40 (ct.mpr z))))]
      refine V_aload_n (pc := 43) dX6_copy_43 rfl rfl ?_
      refine V_iconst (pc := 44) dX6_copy_44 ?_
      refine V_callV (pc := 45) (as := [_]) (rest := []) dX6_copy_45 ⟨kX6_159, iX6_found, by decide, by decide⟩ rc_0 rfl rfl (Nat.le_of_ble_eq_true rfl) (Nat.le_of_ble_eq_true rfl) ?_
      refine ct_X6_found (by decide) ?_
      show V_ _ _ _ _ _ _ [_] _
      refine V_ireturn (pc := 48) dX6_copy_48 rfl rfl (fun hR => ?_)
      have h2 := hK _ (by rw [e]; exact h.found (by omega)) (Fm_.rf.ms (by decide))
      rw [e] at h2
      exact h2
theorem ct_X6_copy_15_13 {i j n : Int} (hi : Rg_ i) (hj : Rg_ j) (hn : Rg_ n) (h : CR_ a σ) (hK : ∀ σ1, CR_ (nx_copy a 2 i 1 j n).2 σ1 → Fm_ σ σ1 → post (some (vi_ (nx_copy a 2 i 1 j n).1)) σ1) : V_ l D mX6_copy (CM_ D mX6_copy post) 0 [some (vr_ 0), some (vi_ 2), some (vi_ i), some (vi_ 1), some (vi_ j), some (vi_ n), none, none] [] σ := by
  have hA := h.1.1
  have hW := vv_WF hA
  have hC := h.2.1
  have hD := h.2.2
  have ws := hW.s
  have wn := hW.n
  have wl := hW.l
  have hS : S1_ a σ 2 15 := h.s1 (s := 2) (by decide)
  have hS2 : S1_ a σ 1 13 := h.s1 (s := 1) (by decide)
  have hz := hA.2.2.2.2.2.1 2 (by decide)
  have hz2 := hA.2.2.2.2.2.1 1 (by decide)
  have hRa := hA.2.2.2.2.2.2.2
  have cs : σ 15 1 = 0 ↔ ¬ a 11 2 = -1 := ⟨fun z c => by rw [hS.1 c] at z; exact absurd z (by decide), fun c => (hS.2 c).1⟩
  have ct : σ 13 1 = 0 ↔ ¬ a 11 1 = -1 := ⟨fun z c => by rw [hS2.1 c] at z; exact absurd z (by decide), fun c => (hS2.2 c).1⟩
  have ex : nx_copy a 2 i 1 j n = if a 11 2 = -1 ∨ a 11 1 = -1 then fd2_ a 1 else if a 11 2 ≠ a 11 1 then fd2_ a 4 else if ¬ rg_ i n (a 12 2) ∨ ¬ rg_ j n (a 12 1) then fd2_ a 2 else (1, mc_ a 15 14 i.toNat j.toNat n.toNat) := by unfold nx_copy; rw [if_neg (by omega)]; rfl
  refine V_aload_n (pc := 0) dX6_copy_0 rfl rfl ?_
  refine V_iload_n (pc := 1) dX6_copy_1 rfl rfl ?_
  refine V_callV (pc := 2) (as := [_]) (rest := []) dX6_copy_2 ⟨kX6_151, iX6_sheetAt, by decide, by decide⟩ rc_0 rfl rfl (Nat.le_of_ble_eq_true rfl) (Nat.le_of_ble_eq_true rfl) ?_
  refine ct_X6_sheetAt_15 ?_
  show V_ _ _ _ _ _ _ [_] _
  refine V_astore (pc := 5) dX6_copy_5 (by decide) rfl ?_
  show V_ _ _ _ _ _ [_, _, _, _, _, _, _, _] _ _
  refine V_aload_n (pc := 7) dX6_copy_7 rfl rfl ?_
  refine V_iload_n (pc := 8) dX6_copy_8 rfl rfl ?_
  refine V_callV (pc := 9) (as := [_]) (rest := []) dX6_copy_9 ⟨kX6_151, iX6_sheetAt, by decide, by decide⟩ rc_0 rfl rfl (Nat.le_of_ble_eq_true rfl) (Nat.le_of_ble_eq_true rfl) ?_
  refine ct_X6_sheetAt_13 ?_
  show V_ _ _ _ _ _ _ [_] _
  refine V_astore (pc := 12) dX6_copy_12 (by decide) rfl ?_
  show V_ _ _ _ _ _ [_, _, _, _, _, _, _, _] _ _
  refine V_aload (pc := 14) dX6_copy_14 rfl ?_
  refine V_ifnull (tgt := 24) (pc := 16) dX6_copy_16 (by decide) (fun z => by cases z) (fun _ _ => ?_)
  refine V_aload (pc := 19) dX6_copy_19 rfl ?_
  refine V_ifnonnull (tgt := 27) (pc := 21) dX6_copy_21 (by decide) (fun _ _ => ?_) (fun z => by cases z)
  refine V_aload (pc := 27) dX6_copy_27 rfl ?_
  refine V_geti (pc := 29) dX6_copy_29 fX6_155 rfl gg_15 rfl (fun r29 => ?_)
  refine V_if_ne (tgt := 43) (pc := 32) dX6_copy_32 (by decide) (by first | assumption | decide | omega | exact ba_rg hR | exact b2_rg) (fun h32 => ?_) (fun h32 => ?_)
  · skip
    have e : nx_copy a 2 i 1 j n = fd2_ a 1 := by rw [ex, if_pos (Or.inl (Decidable.byContradiction (fun z => h32 (cs.mpr z))))]
    refine V_aload_n (pc := 43) dX6_copy_43 rfl rfl ?_
    refine V_iconst (pc := 44) dX6_copy_44 ?_
    refine V_callV (pc := 45) (as := [_]) (rest := []) dX6_copy_45 ⟨kX6_159, iX6_found, by decide, by decide⟩ rc_0 rfl rfl (Nat.le_of_ble_eq_true rfl) (Nat.le_of_ble_eq_true rfl) ?_
    refine ct_X6_found (by decide) ?_
    show V_ _ _ _ _ _ _ [_] _
    refine V_ireturn (pc := 48) dX6_copy_48 rfl rfl (fun hR => ?_)
    have h2 := hK _ (by rw [e]; exact h.found (by omega)) (Fm_.rf.ms (by decide))
    rw [e] at h2
    exact h2
  · skip
    have c1 := cs.mp h32
    refine V_aload (pc := 35) dX6_copy_35 rfl ?_
    refine V_geti (pc := 37) dX6_copy_37 fX6_155 rfl gg_13 rfl (fun r37 => ?_)
    refine V_if_eq (tgt := 49) (pc := 40) dX6_copy_40 (by decide) (by first | assumption | decide | omega | exact ba_rg hR | exact b2_rg) (fun h40 => ?_) (fun h40 => ?_)
    · skip
      have c2 := ct.mp h40
      refine V_aload (pc := 49) dX6_copy_49 rfl ?_
      refine V_geti (pc := 51) dX6_copy_51 fX6_264 rfl gg_15 rfl (fun r51 => ?_)
      rw [(hS.2 c1).2.1] at r51 ⊢
      refine V_aload (pc := 54) dX6_copy_54 rfl ?_
      refine V_geti (pc := 56) dX6_copy_56 fX6_264 rfl gg_13 rfl (fun r56 => ?_)
      rw [(hS2.2 c2).2.1] at r56 ⊢
      refine V_icmp_eq (tgt := 68) (pc := 59) dX6_copy_59 (by decide) (by constructor <;> omega) (by constructor <;> omega) (fun h59 => ?_) (fun h59 => ?_)
      · skip
        refine V_aload (pc := 68) dX6_copy_68 rfl ?_
        refine V_iload_n (pc := 70) dX6_copy_70 rfl rfl ?_
        refine V_iload (pc := 71) dX6_copy_71 rfl ?_
        refine V_callV (pc := 73) (as := [_, _]) (rest := []) dX6_copy_73 ⟨kX6_267, iX4_hasRange, by decide, by decide⟩ rc_15 rfl rfl (Nat.le_of_ble_eq_true rfl) (Nat.le_of_ble_eq_true rfl) ?_
        refine ct_X4_hasRange_15 hi hn (hS.2 c1).2.2.1 (by omega) ?_
        show V_ _ _ _ _ _ _ [_] _
        refine V_if_eq (tgt := 91) (pc := 76) dX6_copy_76 (by decide) b2_rg (fun h76 => ?_) (fun h76 => ?_)
        · skip
          rw [b2_0] at h76
          have e : nx_copy a 2 i 1 j n = fd2_ a 2 := by rw [ex, if_neg (fun z => z.elim c1 c2), if_neg (fun z => z h59), if_pos (Or.inl h76)]
          refine V_aload_n (pc := 91) dX6_copy_91 rfl rfl ?_
          refine V_iconst (pc := 92) dX6_copy_92 ?_
          refine V_callV (pc := 93) (as := [_]) (rest := []) dX6_copy_93 ⟨kX6_159, iX6_found, by decide, by decide⟩ rc_0 rfl rfl (Nat.le_of_ble_eq_true rfl) (Nat.le_of_ble_eq_true rfl) ?_
          refine ct_X6_found (by decide) ?_
          show V_ _ _ _ _ _ _ [_] _
          refine V_ireturn (pc := 96) dX6_copy_96 rfl rfl (fun hR => ?_)
          have h2 := hK _ (by rw [e]; exact h.found (by omega)) (Fm_.rf.ms (by decide))
          rw [e] at h2
          exact h2
        · skip
          rw [b2_n0] at h76
          refine V_aload (pc := 79) dX6_copy_79 rfl ?_
          refine V_iload (pc := 81) dX6_copy_81 rfl ?_
          refine V_iload (pc := 83) dX6_copy_83 rfl ?_
          refine V_callV (pc := 85) (as := [_, _]) (rest := []) dX6_copy_85 ⟨kX6_267, iX4_hasRange, by decide, by decide⟩ rc_13 rfl rfl (Nat.le_of_ble_eq_true rfl) (Nat.le_of_ble_eq_true rfl) ?_
          refine ct_X4_hasRange_13 hj hn (hS2.2 c2).2.2.1 (by omega) ?_
          show V_ _ _ _ _ _ _ [_] _
          refine V_if_ne (tgt := 97) (pc := 88) dX6_copy_88 (by decide) b2_rg (fun h88 => ?_) (fun h88 => ?_)
          · skip
            rw [b2_n0] at h88
            have e : nx_copy a 2 i 1 j n = (1, mc_ a 15 14 i.toNat j.toNat n.toNat) := by rw [ex, if_neg (fun z => z.elim c1 c2), if_neg (fun z => z h59), if_neg (fun z => z.elim (fun z => z h76) (fun z => z h88))]
            refine V_aload (pc := 97) dX6_copy_97 rfl ?_
            refine V_getr (pc := 99) dX6_copy_99 fX6_164 rfl gg_15 rfl ?_
            refine V_iload_n (pc := 102) dX6_copy_102 rfl rfl ?_
            refine V_aload (pc := 103) dX6_copy_103 rfl ?_
            refine V_getr (pc := 105) dX6_copy_105 fX6_164 rfl gg_13 rfl ?_
            refine V_iload (pc := 108) dX6_copy_108 rfl ?_
            refine V_iload (pc := 110) dX6_copy_110 rfl ?_
            refine V_copy (pc := 112) dX6_copy_112 kX6_270 ⟨by decide, by first | decide | exact Nat.le_of_ble_eq_true rfl⟩ gg_16 gg_14 (by have : ((60 : Nat) : Int) = 60 := rfl; omega) (by decide) (by decide) ?_
            refine V_iconst (pc := 115) dX6_copy_115 ?_
            refine V_ireturn (pc := 116) dX6_copy_116 rfl rfl (fun hR => ?_)
            have hcr : CR_ (mc_ a 15 14 i.toNat j.toNat n.toNat) (mc_ σ 16 14 i.toNat j.toNat n.toNat) := by
              refine h.sht (s := 1) (k := 13) rfl (by decide) ⟨fun q hq => by rw [mc_rw (by decide), mc_rw (by decide)]; exact hA.2.2.2.2.2.1 q hq, hRa.mc⟩ (fun q q1 q2 => mc_rw q2) (fun q q1 q2 q3 => mc_rw q3) (fun q hq => by rw [mc_rw (by decide), mc_rw (by decide)]; exact ⟨rfl, rfl⟩) ⟨fun z => ?_, fun z => ⟨?_, ?_, ?_, fun q hq => ?_⟩⟩
              · rw [mc_rw (by decide)] at z; exact absurd z c2
              · rw [mc_rw (by decide)]; exact (hS2.2 c2).1
              · rw [mc_rw (by decide), mc_rw (by decide)]; exact (hS2.2 c2).2.1
              · rw [mc_rw (by decide), mc_rw (by decide)]; exact (hS2.2 c2).2.2.1
              · rw [mc_rw (by decide)] at hq
                show mc_ σ 16 14 i.toNat j.toNat n.toNat 14 q = mc_ a 15 14 i.toNat j.toNat n.toNat 14 q
                unfold mc_
                by_cases c : j.toNat ≤ q ∧ q < j.toNat + n.toNat
                · rw [if_pos ⟨rfl, c⟩, if_pos ⟨rfl, c⟩]
                  exact (hS.2 c1).2.2.2 _ (by omega)
                · rw [if_neg (fun z => c z.2), if_neg (fun z => c z.2)]
                  exact (hS2.2 c2).2.2.2 q hq
            have h2 := hK _ (by rw [e]; exact hcr) (fun q hq => mc_rw (by omega))
            rw [e] at h2
            exact h2
          · skip
            rw [b2_0] at h88
            have e : nx_copy a 2 i 1 j n = fd2_ a 2 := by rw [ex, if_neg (fun z => z.elim c1 c2), if_neg (fun z => z h59), if_pos (Or.inr h88)]
            refine V_aload_n (pc := 91) dX6_copy_91 rfl rfl ?_
            refine V_iconst (pc := 92) dX6_copy_92 ?_
            refine V_callV (pc := 93) (as := [_]) (rest := []) dX6_copy_93 ⟨kX6_159, iX6_found, by decide, by decide⟩ rc_0 rfl rfl (Nat.le_of_ble_eq_true rfl) (Nat.le_of_ble_eq_true rfl) ?_
            refine ct_X6_found (by decide) ?_
            show V_ _ _ _ _ _ _ [_] _
            refine V_ireturn (pc := 96) dX6_copy_96 rfl rfl (fun hR => ?_)
            have h2 := hK _ (by rw [e]; exact h.found (by omega)) (Fm_.rf.ms (by decide))
            rw [e] at h2
            exact h2
      · skip
        have e : nx_copy a 2 i 1 j n = fd2_ a 4 := by rw [ex, if_neg (fun z => z.elim c1 c2), if_pos h59]
        refine V_aload_n (pc := 62) dX6_copy_62 rfl rfl ?_
        refine V_iconst (pc := 63) dX6_copy_63 ?_
        refine V_callV (pc := 64) (as := [_]) (rest := []) dX6_copy_64 ⟨kX6_159, iX6_found, by decide, by decide⟩ rc_0 rfl rfl (Nat.le_of_ble_eq_true rfl) (Nat.le_of_ble_eq_true rfl) ?_
        refine ct_X6_found (by decide) ?_
        show V_ _ _ _ _ _ _ [_] _
        refine V_ireturn (pc := 67) dX6_copy_67 rfl rfl (fun hR => ?_)
        have h2 := hK _ (by rw [e]; exact h.found (by omega)) (Fm_.rf.ms (by decide))
        rw [e] at h2
        exact h2
    · skip
      have e : nx_copy a 2 i 1 j n = fd2_ a 1 := by rw [ex, if_pos (Or.inr (Decidable.byContradiction (fun z => h40 (ct.mpr z))))]
      refine V_aload_n (pc := 43) dX6_copy_43 rfl rfl ?_
      refine V_iconst (pc := 44) dX6_copy_44 ?_
      refine V_callV (pc := 45) (as := [_]) (rest := []) dX6_copy_45 ⟨kX6_159, iX6_found, by decide, by decide⟩ rc_0 rfl rfl (Nat.le_of_ble_eq_true rfl) (Nat.le_of_ble_eq_true rfl) ?_
      refine ct_X6_found (by decide) ?_
      show V_ _ _ _ _ _ _ [_] _
      refine V_ireturn (pc := 48) dX6_copy_48 rfl rfl (fun hR => ?_)
      have h2 := hK _ (by rw [e]; exact h.found (by omega)) (Fm_.rf.ms (by decide))
      rw [e] at h2
      exact h2
theorem ct_X6_copy_15_15 {i j n : Int} (hi : Rg_ i) (hj : Rg_ j) (hn : Rg_ n) (h : CR_ a σ) (hK : ∀ σ1, CR_ (nx_copy a 2 i 2 j n).2 σ1 → Fm_ σ σ1 → post (some (vi_ (nx_copy a 2 i 2 j n).1)) σ1) : V_ l D mX6_copy (CM_ D mX6_copy post) 0 [some (vr_ 0), some (vi_ 2), some (vi_ i), some (vi_ 2), some (vi_ j), some (vi_ n), none, none] [] σ := by
  have hA := h.1.1
  have hW := vv_WF hA
  have hC := h.2.1
  have hD := h.2.2
  have ws := hW.s
  have wn := hW.n
  have wl := hW.l
  have hS : S1_ a σ 2 15 := h.s1 (s := 2) (by decide)
  have hS2 : S1_ a σ 2 15 := h.s1 (s := 2) (by decide)
  have hz := hA.2.2.2.2.2.1 2 (by decide)
  have hz2 := hA.2.2.2.2.2.1 2 (by decide)
  have hRa := hA.2.2.2.2.2.2.2
  have cs : σ 15 1 = 0 ↔ ¬ a 11 2 = -1 := ⟨fun z c => by rw [hS.1 c] at z; exact absurd z (by decide), fun c => (hS.2 c).1⟩
  have ct : σ 15 1 = 0 ↔ ¬ a 11 2 = -1 := ⟨fun z c => by rw [hS2.1 c] at z; exact absurd z (by decide), fun c => (hS2.2 c).1⟩
  have ex : nx_copy a 2 i 2 j n = if a 11 2 = -1 ∨ a 11 2 = -1 then fd2_ a 1 else if a 11 2 ≠ a 11 2 then fd2_ a 4 else if ¬ rg_ i n (a 12 2) ∨ ¬ rg_ j n (a 12 2) then fd2_ a 2 else (1, mc_ a 15 15 i.toNat j.toNat n.toNat) := by unfold nx_copy; rw [if_neg (by omega)]; rfl
  refine V_aload_n (pc := 0) dX6_copy_0 rfl rfl ?_
  refine V_iload_n (pc := 1) dX6_copy_1 rfl rfl ?_
  refine V_callV (pc := 2) (as := [_]) (rest := []) dX6_copy_2 ⟨kX6_151, iX6_sheetAt, by decide, by decide⟩ rc_0 rfl rfl (Nat.le_of_ble_eq_true rfl) (Nat.le_of_ble_eq_true rfl) ?_
  refine ct_X6_sheetAt_15 ?_
  show V_ _ _ _ _ _ _ [_] _
  refine V_astore (pc := 5) dX6_copy_5 (by decide) rfl ?_
  show V_ _ _ _ _ _ [_, _, _, _, _, _, _, _] _ _
  refine V_aload_n (pc := 7) dX6_copy_7 rfl rfl ?_
  refine V_iload_n (pc := 8) dX6_copy_8 rfl rfl ?_
  refine V_callV (pc := 9) (as := [_]) (rest := []) dX6_copy_9 ⟨kX6_151, iX6_sheetAt, by decide, by decide⟩ rc_0 rfl rfl (Nat.le_of_ble_eq_true rfl) (Nat.le_of_ble_eq_true rfl) ?_
  refine ct_X6_sheetAt_15 ?_
  show V_ _ _ _ _ _ _ [_] _
  refine V_astore (pc := 12) dX6_copy_12 (by decide) rfl ?_
  show V_ _ _ _ _ _ [_, _, _, _, _, _, _, _] _ _
  refine V_aload (pc := 14) dX6_copy_14 rfl ?_
  refine V_ifnull (tgt := 24) (pc := 16) dX6_copy_16 (by decide) (fun z => by cases z) (fun _ _ => ?_)
  refine V_aload (pc := 19) dX6_copy_19 rfl ?_
  refine V_ifnonnull (tgt := 27) (pc := 21) dX6_copy_21 (by decide) (fun _ _ => ?_) (fun z => by cases z)
  refine V_aload (pc := 27) dX6_copy_27 rfl ?_
  refine V_geti (pc := 29) dX6_copy_29 fX6_155 rfl gg_15 rfl (fun r29 => ?_)
  refine V_if_ne (tgt := 43) (pc := 32) dX6_copy_32 (by decide) (by first | assumption | decide | omega | exact ba_rg hR | exact b2_rg) (fun h32 => ?_) (fun h32 => ?_)
  · skip
    have e : nx_copy a 2 i 2 j n = fd2_ a 1 := by rw [ex, if_pos (Or.inl (Decidable.byContradiction (fun z => h32 (cs.mpr z))))]
    refine V_aload_n (pc := 43) dX6_copy_43 rfl rfl ?_
    refine V_iconst (pc := 44) dX6_copy_44 ?_
    refine V_callV (pc := 45) (as := [_]) (rest := []) dX6_copy_45 ⟨kX6_159, iX6_found, by decide, by decide⟩ rc_0 rfl rfl (Nat.le_of_ble_eq_true rfl) (Nat.le_of_ble_eq_true rfl) ?_
    refine ct_X6_found (by decide) ?_
    show V_ _ _ _ _ _ _ [_] _
    refine V_ireturn (pc := 48) dX6_copy_48 rfl rfl (fun hR => ?_)
    have h2 := hK _ (by rw [e]; exact h.found (by omega)) (Fm_.rf.ms (by decide))
    rw [e] at h2
    exact h2
  · skip
    have c1 := cs.mp h32
    refine V_aload (pc := 35) dX6_copy_35 rfl ?_
    refine V_geti (pc := 37) dX6_copy_37 fX6_155 rfl gg_15 rfl (fun r37 => ?_)
    refine V_if_eq (tgt := 49) (pc := 40) dX6_copy_40 (by decide) (by first | assumption | decide | omega | exact ba_rg hR | exact b2_rg) (fun h40 => ?_) (fun h40 => ?_)
    · skip
      have c2 := ct.mp h40
      refine V_aload (pc := 49) dX6_copy_49 rfl ?_
      refine V_geti (pc := 51) dX6_copy_51 fX6_264 rfl gg_15 rfl (fun r51 => ?_)
      rw [(hS.2 c1).2.1] at r51 ⊢
      refine V_aload (pc := 54) dX6_copy_54 rfl ?_
      refine V_geti (pc := 56) dX6_copy_56 fX6_264 rfl gg_15 rfl (fun r56 => ?_)
      rw [(hS2.2 c2).2.1] at r56 ⊢
      refine V_icmp_eq (tgt := 68) (pc := 59) dX6_copy_59 (by decide) (by constructor <;> omega) (by constructor <;> omega) (fun h59 => ?_) (fun h59 => ?_)
      · skip
        refine V_aload (pc := 68) dX6_copy_68 rfl ?_
        refine V_iload_n (pc := 70) dX6_copy_70 rfl rfl ?_
        refine V_iload (pc := 71) dX6_copy_71 rfl ?_
        refine V_callV (pc := 73) (as := [_, _]) (rest := []) dX6_copy_73 ⟨kX6_267, iX4_hasRange, by decide, by decide⟩ rc_15 rfl rfl (Nat.le_of_ble_eq_true rfl) (Nat.le_of_ble_eq_true rfl) ?_
        refine ct_X4_hasRange_15 hi hn (hS.2 c1).2.2.1 (by omega) ?_
        show V_ _ _ _ _ _ _ [_] _
        refine V_if_eq (tgt := 91) (pc := 76) dX6_copy_76 (by decide) b2_rg (fun h76 => ?_) (fun h76 => ?_)
        · skip
          rw [b2_0] at h76
          have e : nx_copy a 2 i 2 j n = fd2_ a 2 := by rw [ex, if_neg (fun z => z.elim c1 c2), if_neg (fun z => z h59), if_pos (Or.inl h76)]
          refine V_aload_n (pc := 91) dX6_copy_91 rfl rfl ?_
          refine V_iconst (pc := 92) dX6_copy_92 ?_
          refine V_callV (pc := 93) (as := [_]) (rest := []) dX6_copy_93 ⟨kX6_159, iX6_found, by decide, by decide⟩ rc_0 rfl rfl (Nat.le_of_ble_eq_true rfl) (Nat.le_of_ble_eq_true rfl) ?_
          refine ct_X6_found (by decide) ?_
          show V_ _ _ _ _ _ _ [_] _
          refine V_ireturn (pc := 96) dX6_copy_96 rfl rfl (fun hR => ?_)
          have h2 := hK _ (by rw [e]; exact h.found (by omega)) (Fm_.rf.ms (by decide))
          rw [e] at h2
          exact h2
        · skip
          rw [b2_n0] at h76
          refine V_aload (pc := 79) dX6_copy_79 rfl ?_
          refine V_iload (pc := 81) dX6_copy_81 rfl ?_
          refine V_iload (pc := 83) dX6_copy_83 rfl ?_
          refine V_callV (pc := 85) (as := [_, _]) (rest := []) dX6_copy_85 ⟨kX6_267, iX4_hasRange, by decide, by decide⟩ rc_15 rfl rfl (Nat.le_of_ble_eq_true rfl) (Nat.le_of_ble_eq_true rfl) ?_
          refine ct_X4_hasRange_15 hj hn (hS2.2 c2).2.2.1 (by omega) ?_
          show V_ _ _ _ _ _ _ [_] _
          refine V_if_ne (tgt := 97) (pc := 88) dX6_copy_88 (by decide) b2_rg (fun h88 => ?_) (fun h88 => ?_)
          · skip
            rw [b2_n0] at h88
            have e : nx_copy a 2 i 2 j n = (1, mc_ a 15 15 i.toNat j.toNat n.toNat) := by rw [ex, if_neg (fun z => z.elim c1 c2), if_neg (fun z => z h59), if_neg (fun z => z.elim (fun z => z h76) (fun z => z h88))]
            refine V_aload (pc := 97) dX6_copy_97 rfl ?_
            refine V_getr (pc := 99) dX6_copy_99 fX6_164 rfl gg_15 rfl ?_
            refine V_iload_n (pc := 102) dX6_copy_102 rfl rfl ?_
            refine V_aload (pc := 103) dX6_copy_103 rfl ?_
            refine V_getr (pc := 105) dX6_copy_105 fX6_164 rfl gg_15 rfl ?_
            refine V_iload (pc := 108) dX6_copy_108 rfl ?_
            refine V_iload (pc := 110) dX6_copy_110 rfl ?_
            refine V_copy (pc := 112) dX6_copy_112 kX6_270 ⟨by decide, by first | decide | exact Nat.le_of_ble_eq_true rfl⟩ gg_16 gg_16 (by have : ((60 : Nat) : Int) = 60 := rfl; omega) (by decide) (by decide) ?_
            refine V_iconst (pc := 115) dX6_copy_115 ?_
            refine V_ireturn (pc := 116) dX6_copy_116 rfl rfl (fun hR => ?_)
            have hcr : CR_ (mc_ a 15 15 i.toNat j.toNat n.toNat) (mc_ σ 16 16 i.toNat j.toNat n.toNat) := by
              refine h.sht (s := 2) (k := 15) rfl (by decide) ⟨fun q hq => by rw [mc_rw (by decide), mc_rw (by decide)]; exact hA.2.2.2.2.2.1 q hq, hRa.mc⟩ (fun q q1 q2 => mc_rw q2) (fun q q1 q2 q3 => mc_rw q3) (fun q hq => by rw [mc_rw (by decide), mc_rw (by decide)]; exact ⟨rfl, rfl⟩) ⟨fun z => ?_, fun z => ⟨?_, ?_, ?_, fun q hq => ?_⟩⟩
              · rw [mc_rw (by decide)] at z; exact absurd z c2
              · rw [mc_rw (by decide)]; exact (hS2.2 c2).1
              · rw [mc_rw (by decide), mc_rw (by decide)]; exact (hS2.2 c2).2.1
              · rw [mc_rw (by decide), mc_rw (by decide)]; exact (hS2.2 c2).2.2.1
              · rw [mc_rw (by decide)] at hq
                show mc_ σ 16 16 i.toNat j.toNat n.toNat 16 q = mc_ a 15 15 i.toNat j.toNat n.toNat 15 q
                unfold mc_
                by_cases c : j.toNat ≤ q ∧ q < j.toNat + n.toNat
                · rw [if_pos ⟨rfl, c⟩, if_pos ⟨rfl, c⟩]
                  exact (hS.2 c1).2.2.2 _ (by omega)
                · rw [if_neg (fun z => c z.2), if_neg (fun z => c z.2)]
                  exact (hS2.2 c2).2.2.2 q hq
            have h2 := hK _ (by rw [e]; exact hcr) (fun q hq => mc_rw (by omega))
            rw [e] at h2
            exact h2
          · skip
            rw [b2_0] at h88
            have e : nx_copy a 2 i 2 j n = fd2_ a 2 := by rw [ex, if_neg (fun z => z.elim c1 c2), if_neg (fun z => z h59), if_pos (Or.inr h88)]
            refine V_aload_n (pc := 91) dX6_copy_91 rfl rfl ?_
            refine V_iconst (pc := 92) dX6_copy_92 ?_
            refine V_callV (pc := 93) (as := [_]) (rest := []) dX6_copy_93 ⟨kX6_159, iX6_found, by decide, by decide⟩ rc_0 rfl rfl (Nat.le_of_ble_eq_true rfl) (Nat.le_of_ble_eq_true rfl) ?_
            refine ct_X6_found (by decide) ?_
            show V_ _ _ _ _ _ _ [_] _
            refine V_ireturn (pc := 96) dX6_copy_96 rfl rfl (fun hR => ?_)
            have h2 := hK _ (by rw [e]; exact h.found (by omega)) (Fm_.rf.ms (by decide))
            rw [e] at h2
            exact h2
      · skip
        have e : nx_copy a 2 i 2 j n = fd2_ a 4 := by rw [ex, if_neg (fun z => z.elim c1 c2), if_pos h59]
        refine V_aload_n (pc := 62) dX6_copy_62 rfl rfl ?_
        refine V_iconst (pc := 63) dX6_copy_63 ?_
        refine V_callV (pc := 64) (as := [_]) (rest := []) dX6_copy_64 ⟨kX6_159, iX6_found, by decide, by decide⟩ rc_0 rfl rfl (Nat.le_of_ble_eq_true rfl) (Nat.le_of_ble_eq_true rfl) ?_
        refine ct_X6_found (by decide) ?_
        show V_ _ _ _ _ _ _ [_] _
        refine V_ireturn (pc := 67) dX6_copy_67 rfl rfl (fun hR => ?_)
        have h2 := hK _ (by rw [e]; exact h.found (by omega)) (Fm_.rf.ms (by decide))
        rw [e] at h2
        exact h2
    · skip
      have e : nx_copy a 2 i 2 j n = fd2_ a 1 := by rw [ex, if_pos (Or.inr (Decidable.byContradiction (fun z => h40 (ct.mpr z))))]
      refine V_aload_n (pc := 43) dX6_copy_43 rfl rfl ?_
      refine V_iconst (pc := 44) dX6_copy_44 ?_
      refine V_callV (pc := 45) (as := [_]) (rest := []) dX6_copy_45 ⟨kX6_159, iX6_found, by decide, by decide⟩ rc_0 rfl rfl (Nat.le_of_ble_eq_true rfl) (Nat.le_of_ble_eq_true rfl) ?_
      refine ct_X6_found (by decide) ?_
      show V_ _ _ _ _ _ _ [_] _
      refine V_ireturn (pc := 48) dX6_copy_48 rfl rfl (fun hR => ?_)
      have h2 := hK _ (by rw [e]; exact h.found (by omega)) (Fm_.rf.ms (by decide))
      rw [e] at h2
      exact h2
theorem ct_X6_copy_15_17 {i j n : Int} (hi : Rg_ i) (hj : Rg_ j) (hn : Rg_ n) (h : CR_ a σ) (hK : ∀ σ1, CR_ (nx_copy a 2 i 3 j n).2 σ1 → Fm_ σ σ1 → post (some (vi_ (nx_copy a 2 i 3 j n).1)) σ1) : V_ l D mX6_copy (CM_ D mX6_copy post) 0 [some (vr_ 0), some (vi_ 2), some (vi_ i), some (vi_ 3), some (vi_ j), some (vi_ n), none, none] [] σ := by
  have hA := h.1.1
  have hW := vv_WF hA
  have hC := h.2.1
  have hD := h.2.2
  have ws := hW.s
  have wn := hW.n
  have wl := hW.l
  have hS : S1_ a σ 2 15 := h.s1 (s := 2) (by decide)
  have hS2 : S1_ a σ 3 17 := h.s1 (s := 3) (by decide)
  have hz := hA.2.2.2.2.2.1 2 (by decide)
  have hz2 := hA.2.2.2.2.2.1 3 (by decide)
  have hRa := hA.2.2.2.2.2.2.2
  have cs : σ 15 1 = 0 ↔ ¬ a 11 2 = -1 := ⟨fun z c => by rw [hS.1 c] at z; exact absurd z (by decide), fun c => (hS.2 c).1⟩
  have ct : σ 17 1 = 0 ↔ ¬ a 11 3 = -1 := ⟨fun z c => by rw [hS2.1 c] at z; exact absurd z (by decide), fun c => (hS2.2 c).1⟩
  have ex : nx_copy a 2 i 3 j n = if a 11 2 = -1 ∨ a 11 3 = -1 then fd2_ a 1 else if a 11 2 ≠ a 11 3 then fd2_ a 4 else if ¬ rg_ i n (a 12 2) ∨ ¬ rg_ j n (a 12 3) then fd2_ a 2 else (1, mc_ a 15 16 i.toNat j.toNat n.toNat) := by unfold nx_copy; rw [if_neg (by omega)]; rfl
  refine V_aload_n (pc := 0) dX6_copy_0 rfl rfl ?_
  refine V_iload_n (pc := 1) dX6_copy_1 rfl rfl ?_
  refine V_callV (pc := 2) (as := [_]) (rest := []) dX6_copy_2 ⟨kX6_151, iX6_sheetAt, by decide, by decide⟩ rc_0 rfl rfl (Nat.le_of_ble_eq_true rfl) (Nat.le_of_ble_eq_true rfl) ?_
  refine ct_X6_sheetAt_15 ?_
  show V_ _ _ _ _ _ _ [_] _
  refine V_astore (pc := 5) dX6_copy_5 (by decide) rfl ?_
  show V_ _ _ _ _ _ [_, _, _, _, _, _, _, _] _ _
  refine V_aload_n (pc := 7) dX6_copy_7 rfl rfl ?_
  refine V_iload_n (pc := 8) dX6_copy_8 rfl rfl ?_
  refine V_callV (pc := 9) (as := [_]) (rest := []) dX6_copy_9 ⟨kX6_151, iX6_sheetAt, by decide, by decide⟩ rc_0 rfl rfl (Nat.le_of_ble_eq_true rfl) (Nat.le_of_ble_eq_true rfl) ?_
  refine ct_X6_sheetAt_17 ?_
  show V_ _ _ _ _ _ _ [_] _
  refine V_astore (pc := 12) dX6_copy_12 (by decide) rfl ?_
  show V_ _ _ _ _ _ [_, _, _, _, _, _, _, _] _ _
  refine V_aload (pc := 14) dX6_copy_14 rfl ?_
  refine V_ifnull (tgt := 24) (pc := 16) dX6_copy_16 (by decide) (fun z => by cases z) (fun _ _ => ?_)
  refine V_aload (pc := 19) dX6_copy_19 rfl ?_
  refine V_ifnonnull (tgt := 27) (pc := 21) dX6_copy_21 (by decide) (fun _ _ => ?_) (fun z => by cases z)
  refine V_aload (pc := 27) dX6_copy_27 rfl ?_
  refine V_geti (pc := 29) dX6_copy_29 fX6_155 rfl gg_15 rfl (fun r29 => ?_)
  refine V_if_ne (tgt := 43) (pc := 32) dX6_copy_32 (by decide) (by first | assumption | decide | omega | exact ba_rg hR | exact b2_rg) (fun h32 => ?_) (fun h32 => ?_)
  · skip
    have e : nx_copy a 2 i 3 j n = fd2_ a 1 := by rw [ex, if_pos (Or.inl (Decidable.byContradiction (fun z => h32 (cs.mpr z))))]
    refine V_aload_n (pc := 43) dX6_copy_43 rfl rfl ?_
    refine V_iconst (pc := 44) dX6_copy_44 ?_
    refine V_callV (pc := 45) (as := [_]) (rest := []) dX6_copy_45 ⟨kX6_159, iX6_found, by decide, by decide⟩ rc_0 rfl rfl (Nat.le_of_ble_eq_true rfl) (Nat.le_of_ble_eq_true rfl) ?_
    refine ct_X6_found (by decide) ?_
    show V_ _ _ _ _ _ _ [_] _
    refine V_ireturn (pc := 48) dX6_copy_48 rfl rfl (fun hR => ?_)
    have h2 := hK _ (by rw [e]; exact h.found (by omega)) (Fm_.rf.ms (by decide))
    rw [e] at h2
    exact h2
  · skip
    have c1 := cs.mp h32
    refine V_aload (pc := 35) dX6_copy_35 rfl ?_
    refine V_geti (pc := 37) dX6_copy_37 fX6_155 rfl gg_17 rfl (fun r37 => ?_)
    refine V_if_eq (tgt := 49) (pc := 40) dX6_copy_40 (by decide) (by first | assumption | decide | omega | exact ba_rg hR | exact b2_rg) (fun h40 => ?_) (fun h40 => ?_)
    · skip
      have c2 := ct.mp h40
      refine V_aload (pc := 49) dX6_copy_49 rfl ?_
      refine V_geti (pc := 51) dX6_copy_51 fX6_264 rfl gg_15 rfl (fun r51 => ?_)
      rw [(hS.2 c1).2.1] at r51 ⊢
      refine V_aload (pc := 54) dX6_copy_54 rfl ?_
      refine V_geti (pc := 56) dX6_copy_56 fX6_264 rfl gg_17 rfl (fun r56 => ?_)
      rw [(hS2.2 c2).2.1] at r56 ⊢
      refine V_icmp_eq (tgt := 68) (pc := 59) dX6_copy_59 (by decide) (by constructor <;> omega) (by constructor <;> omega) (fun h59 => ?_) (fun h59 => ?_)
      · skip
        refine V_aload (pc := 68) dX6_copy_68 rfl ?_
        refine V_iload_n (pc := 70) dX6_copy_70 rfl rfl ?_
        refine V_iload (pc := 71) dX6_copy_71 rfl ?_
        refine V_callV (pc := 73) (as := [_, _]) (rest := []) dX6_copy_73 ⟨kX6_267, iX4_hasRange, by decide, by decide⟩ rc_15 rfl rfl (Nat.le_of_ble_eq_true rfl) (Nat.le_of_ble_eq_true rfl) ?_
        refine ct_X4_hasRange_15 hi hn (hS.2 c1).2.2.1 (by omega) ?_
        show V_ _ _ _ _ _ _ [_] _
        refine V_if_eq (tgt := 91) (pc := 76) dX6_copy_76 (by decide) b2_rg (fun h76 => ?_) (fun h76 => ?_)
        · skip
          rw [b2_0] at h76
          have e : nx_copy a 2 i 3 j n = fd2_ a 2 := by rw [ex, if_neg (fun z => z.elim c1 c2), if_neg (fun z => z h59), if_pos (Or.inl h76)]
          refine V_aload_n (pc := 91) dX6_copy_91 rfl rfl ?_
          refine V_iconst (pc := 92) dX6_copy_92 ?_
          refine V_callV (pc := 93) (as := [_]) (rest := []) dX6_copy_93 ⟨kX6_159, iX6_found, by decide, by decide⟩ rc_0 rfl rfl (Nat.le_of_ble_eq_true rfl) (Nat.le_of_ble_eq_true rfl) ?_
          refine ct_X6_found (by decide) ?_
          show V_ _ _ _ _ _ _ [_] _
          refine V_ireturn (pc := 96) dX6_copy_96 rfl rfl (fun hR => ?_)
          have h2 := hK _ (by rw [e]; exact h.found (by omega)) (Fm_.rf.ms (by decide))
          rw [e] at h2
          exact h2
        · skip
          rw [b2_n0] at h76
          refine V_aload (pc := 79) dX6_copy_79 rfl ?_
          refine V_iload (pc := 81) dX6_copy_81 rfl ?_
          refine V_iload (pc := 83) dX6_copy_83 rfl ?_
          refine V_callV (pc := 85) (as := [_, _]) (rest := []) dX6_copy_85 ⟨kX6_267, iX4_hasRange, by decide, by decide⟩ rc_17 rfl rfl (Nat.le_of_ble_eq_true rfl) (Nat.le_of_ble_eq_true rfl) ?_
          refine ct_X4_hasRange_17 hj hn (hS2.2 c2).2.2.1 (by omega) ?_
          show V_ _ _ _ _ _ _ [_] _
          refine V_if_ne (tgt := 97) (pc := 88) dX6_copy_88 (by decide) b2_rg (fun h88 => ?_) (fun h88 => ?_)
          · skip
            rw [b2_n0] at h88
            have e : nx_copy a 2 i 3 j n = (1, mc_ a 15 16 i.toNat j.toNat n.toNat) := by rw [ex, if_neg (fun z => z.elim c1 c2), if_neg (fun z => z h59), if_neg (fun z => z.elim (fun z => z h76) (fun z => z h88))]
            refine V_aload (pc := 97) dX6_copy_97 rfl ?_
            refine V_getr (pc := 99) dX6_copy_99 fX6_164 rfl gg_15 rfl ?_
            refine V_iload_n (pc := 102) dX6_copy_102 rfl rfl ?_
            refine V_aload (pc := 103) dX6_copy_103 rfl ?_
            refine V_getr (pc := 105) dX6_copy_105 fX6_164 rfl gg_17 rfl ?_
            refine V_iload (pc := 108) dX6_copy_108 rfl ?_
            refine V_iload (pc := 110) dX6_copy_110 rfl ?_
            refine V_copy (pc := 112) dX6_copy_112 kX6_270 ⟨by decide, by first | decide | exact Nat.le_of_ble_eq_true rfl⟩ gg_16 gg_18 (by have : ((60 : Nat) : Int) = 60 := rfl; omega) (by decide) (by decide) ?_
            refine V_iconst (pc := 115) dX6_copy_115 ?_
            refine V_ireturn (pc := 116) dX6_copy_116 rfl rfl (fun hR => ?_)
            have hcr : CR_ (mc_ a 15 16 i.toNat j.toNat n.toNat) (mc_ σ 16 18 i.toNat j.toNat n.toNat) := by
              refine h.sht (s := 3) (k := 17) rfl (by decide) ⟨fun q hq => by rw [mc_rw (by decide), mc_rw (by decide)]; exact hA.2.2.2.2.2.1 q hq, hRa.mc⟩ (fun q q1 q2 => mc_rw q2) (fun q q1 q2 q3 => mc_rw q3) (fun q hq => by rw [mc_rw (by decide), mc_rw (by decide)]; exact ⟨rfl, rfl⟩) ⟨fun z => ?_, fun z => ⟨?_, ?_, ?_, fun q hq => ?_⟩⟩
              · rw [mc_rw (by decide)] at z; exact absurd z c2
              · rw [mc_rw (by decide)]; exact (hS2.2 c2).1
              · rw [mc_rw (by decide), mc_rw (by decide)]; exact (hS2.2 c2).2.1
              · rw [mc_rw (by decide), mc_rw (by decide)]; exact (hS2.2 c2).2.2.1
              · rw [mc_rw (by decide)] at hq
                show mc_ σ 16 18 i.toNat j.toNat n.toNat 18 q = mc_ a 15 16 i.toNat j.toNat n.toNat 16 q
                unfold mc_
                by_cases c : j.toNat ≤ q ∧ q < j.toNat + n.toNat
                · rw [if_pos ⟨rfl, c⟩, if_pos ⟨rfl, c⟩]
                  exact (hS.2 c1).2.2.2 _ (by omega)
                · rw [if_neg (fun z => c z.2), if_neg (fun z => c z.2)]
                  exact (hS2.2 c2).2.2.2 q hq
            have h2 := hK _ (by rw [e]; exact hcr) (fun q hq => mc_rw (by omega))
            rw [e] at h2
            exact h2
          · skip
            rw [b2_0] at h88
            have e : nx_copy a 2 i 3 j n = fd2_ a 2 := by rw [ex, if_neg (fun z => z.elim c1 c2), if_neg (fun z => z h59), if_pos (Or.inr h88)]
            refine V_aload_n (pc := 91) dX6_copy_91 rfl rfl ?_
            refine V_iconst (pc := 92) dX6_copy_92 ?_
            refine V_callV (pc := 93) (as := [_]) (rest := []) dX6_copy_93 ⟨kX6_159, iX6_found, by decide, by decide⟩ rc_0 rfl rfl (Nat.le_of_ble_eq_true rfl) (Nat.le_of_ble_eq_true rfl) ?_
            refine ct_X6_found (by decide) ?_
            show V_ _ _ _ _ _ _ [_] _
            refine V_ireturn (pc := 96) dX6_copy_96 rfl rfl (fun hR => ?_)
            have h2 := hK _ (by rw [e]; exact h.found (by omega)) (Fm_.rf.ms (by decide))
            rw [e] at h2
            exact h2
      · skip
        have e : nx_copy a 2 i 3 j n = fd2_ a 4 := by rw [ex, if_neg (fun z => z.elim c1 c2), if_pos h59]
        refine V_aload_n (pc := 62) dX6_copy_62 rfl rfl ?_
        refine V_iconst (pc := 63) dX6_copy_63 ?_
        refine V_callV (pc := 64) (as := [_]) (rest := []) dX6_copy_64 ⟨kX6_159, iX6_found, by decide, by decide⟩ rc_0 rfl rfl (Nat.le_of_ble_eq_true rfl) (Nat.le_of_ble_eq_true rfl) ?_
        refine ct_X6_found (by decide) ?_
        show V_ _ _ _ _ _ _ [_] _
        refine V_ireturn (pc := 67) dX6_copy_67 rfl rfl (fun hR => ?_)
        have h2 := hK _ (by rw [e]; exact h.found (by omega)) (Fm_.rf.ms (by decide))
        rw [e] at h2
        exact h2
    · skip
      have e : nx_copy a 2 i 3 j n = fd2_ a 1 := by rw [ex, if_pos (Or.inr (Decidable.byContradiction (fun z => h40 (ct.mpr z))))]
      refine V_aload_n (pc := 43) dX6_copy_43 rfl rfl ?_
      refine V_iconst (pc := 44) dX6_copy_44 ?_
      refine V_callV (pc := 45) (as := [_]) (rest := []) dX6_copy_45 ⟨kX6_159, iX6_found, by decide, by decide⟩ rc_0 rfl rfl (Nat.le_of_ble_eq_true rfl) (Nat.le_of_ble_eq_true rfl) ?_
      refine ct_X6_found (by decide) ?_
      show V_ _ _ _ _ _ _ [_] _
      refine V_ireturn (pc := 48) dX6_copy_48 rfl rfl (fun hR => ?_)
      have h2 := hK _ (by rw [e]; exact h.found (by omega)) (Fm_.rf.ms (by decide))
      rw [e] at h2
      exact h2
theorem ct_X6_copy_17_11 {i j n : Int} (hi : Rg_ i) (hj : Rg_ j) (hn : Rg_ n) (h : CR_ a σ) (hK : ∀ σ1, CR_ (nx_copy a 3 i 0 j n).2 σ1 → Fm_ σ σ1 → post (some (vi_ (nx_copy a 3 i 0 j n).1)) σ1) : V_ l D mX6_copy (CM_ D mX6_copy post) 0 [some (vr_ 0), some (vi_ 3), some (vi_ i), some (vi_ 0), some (vi_ j), some (vi_ n), none, none] [] σ := by
  have hA := h.1.1
  have hW := vv_WF hA
  have hC := h.2.1
  have hD := h.2.2
  have ws := hW.s
  have wn := hW.n
  have wl := hW.l
  have hS : S1_ a σ 3 17 := h.s1 (s := 3) (by decide)
  have hS2 : S1_ a σ 0 11 := h.s1 (s := 0) (by decide)
  have hz := hA.2.2.2.2.2.1 3 (by decide)
  have hz2 := hA.2.2.2.2.2.1 0 (by decide)
  have hRa := hA.2.2.2.2.2.2.2
  have cs : σ 17 1 = 0 ↔ ¬ a 11 3 = -1 := ⟨fun z c => by rw [hS.1 c] at z; exact absurd z (by decide), fun c => (hS.2 c).1⟩
  have ct : σ 11 1 = 0 ↔ ¬ a 11 0 = -1 := ⟨fun z c => by rw [hS2.1 c] at z; exact absurd z (by decide), fun c => (hS2.2 c).1⟩
  have ex : nx_copy a 3 i 0 j n = if a 11 3 = -1 ∨ a 11 0 = -1 then fd2_ a 1 else if a 11 3 ≠ a 11 0 then fd2_ a 4 else if ¬ rg_ i n (a 12 3) ∨ ¬ rg_ j n (a 12 0) then fd2_ a 2 else (1, mc_ a 16 13 i.toNat j.toNat n.toNat) := by unfold nx_copy; rw [if_neg (by omega)]; rfl
  refine V_aload_n (pc := 0) dX6_copy_0 rfl rfl ?_
  refine V_iload_n (pc := 1) dX6_copy_1 rfl rfl ?_
  refine V_callV (pc := 2) (as := [_]) (rest := []) dX6_copy_2 ⟨kX6_151, iX6_sheetAt, by decide, by decide⟩ rc_0 rfl rfl (Nat.le_of_ble_eq_true rfl) (Nat.le_of_ble_eq_true rfl) ?_
  refine ct_X6_sheetAt_17 ?_
  show V_ _ _ _ _ _ _ [_] _
  refine V_astore (pc := 5) dX6_copy_5 (by decide) rfl ?_
  show V_ _ _ _ _ _ [_, _, _, _, _, _, _, _] _ _
  refine V_aload_n (pc := 7) dX6_copy_7 rfl rfl ?_
  refine V_iload_n (pc := 8) dX6_copy_8 rfl rfl ?_
  refine V_callV (pc := 9) (as := [_]) (rest := []) dX6_copy_9 ⟨kX6_151, iX6_sheetAt, by decide, by decide⟩ rc_0 rfl rfl (Nat.le_of_ble_eq_true rfl) (Nat.le_of_ble_eq_true rfl) ?_
  refine ct_X6_sheetAt_11 ?_
  show V_ _ _ _ _ _ _ [_] _
  refine V_astore (pc := 12) dX6_copy_12 (by decide) rfl ?_
  show V_ _ _ _ _ _ [_, _, _, _, _, _, _, _] _ _
  refine V_aload (pc := 14) dX6_copy_14 rfl ?_
  refine V_ifnull (tgt := 24) (pc := 16) dX6_copy_16 (by decide) (fun z => by cases z) (fun _ _ => ?_)
  refine V_aload (pc := 19) dX6_copy_19 rfl ?_
  refine V_ifnonnull (tgt := 27) (pc := 21) dX6_copy_21 (by decide) (fun _ _ => ?_) (fun z => by cases z)
  refine V_aload (pc := 27) dX6_copy_27 rfl ?_
  refine V_geti (pc := 29) dX6_copy_29 fX6_155 rfl gg_17 rfl (fun r29 => ?_)
  refine V_if_ne (tgt := 43) (pc := 32) dX6_copy_32 (by decide) (by first | assumption | decide | omega | exact ba_rg hR | exact b2_rg) (fun h32 => ?_) (fun h32 => ?_)
  · skip
    have e : nx_copy a 3 i 0 j n = fd2_ a 1 := by rw [ex, if_pos (Or.inl (Decidable.byContradiction (fun z => h32 (cs.mpr z))))]
    refine V_aload_n (pc := 43) dX6_copy_43 rfl rfl ?_
    refine V_iconst (pc := 44) dX6_copy_44 ?_
    refine V_callV (pc := 45) (as := [_]) (rest := []) dX6_copy_45 ⟨kX6_159, iX6_found, by decide, by decide⟩ rc_0 rfl rfl (Nat.le_of_ble_eq_true rfl) (Nat.le_of_ble_eq_true rfl) ?_
    refine ct_X6_found (by decide) ?_
    show V_ _ _ _ _ _ _ [_] _
    refine V_ireturn (pc := 48) dX6_copy_48 rfl rfl (fun hR => ?_)
    have h2 := hK _ (by rw [e]; exact h.found (by omega)) (Fm_.rf.ms (by decide))
    rw [e] at h2
    exact h2
  · skip
    have c1 := cs.mp h32
    refine V_aload (pc := 35) dX6_copy_35 rfl ?_
    refine V_geti (pc := 37) dX6_copy_37 fX6_155 rfl gg_11 rfl (fun r37 => ?_)
    refine V_if_eq (tgt := 49) (pc := 40) dX6_copy_40 (by decide) (by first | assumption | decide | omega | exact ba_rg hR | exact b2_rg) (fun h40 => ?_) (fun h40 => ?_)
    · skip
      have c2 := ct.mp h40
      refine V_aload (pc := 49) dX6_copy_49 rfl ?_
      refine V_geti (pc := 51) dX6_copy_51 fX6_264 rfl gg_17 rfl (fun r51 => ?_)
      rw [(hS.2 c1).2.1] at r51 ⊢
      refine V_aload (pc := 54) dX6_copy_54 rfl ?_
      refine V_geti (pc := 56) dX6_copy_56 fX6_264 rfl gg_11 rfl (fun r56 => ?_)
      rw [(hS2.2 c2).2.1] at r56 ⊢
      refine V_icmp_eq (tgt := 68) (pc := 59) dX6_copy_59 (by decide) (by constructor <;> omega) (by constructor <;> omega) (fun h59 => ?_) (fun h59 => ?_)
      · skip
        refine V_aload (pc := 68) dX6_copy_68 rfl ?_
        refine V_iload_n (pc := 70) dX6_copy_70 rfl rfl ?_
        refine V_iload (pc := 71) dX6_copy_71 rfl ?_
        refine V_callV (pc := 73) (as := [_, _]) (rest := []) dX6_copy_73 ⟨kX6_267, iX4_hasRange, by decide, by decide⟩ rc_17 rfl rfl (Nat.le_of_ble_eq_true rfl) (Nat.le_of_ble_eq_true rfl) ?_
        refine ct_X4_hasRange_17 hi hn (hS.2 c1).2.2.1 (by omega) ?_
        show V_ _ _ _ _ _ _ [_] _
        refine V_if_eq (tgt := 91) (pc := 76) dX6_copy_76 (by decide) b2_rg (fun h76 => ?_) (fun h76 => ?_)
        · skip
          rw [b2_0] at h76
          have e : nx_copy a 3 i 0 j n = fd2_ a 2 := by rw [ex, if_neg (fun z => z.elim c1 c2), if_neg (fun z => z h59), if_pos (Or.inl h76)]
          refine V_aload_n (pc := 91) dX6_copy_91 rfl rfl ?_
          refine V_iconst (pc := 92) dX6_copy_92 ?_
          refine V_callV (pc := 93) (as := [_]) (rest := []) dX6_copy_93 ⟨kX6_159, iX6_found, by decide, by decide⟩ rc_0 rfl rfl (Nat.le_of_ble_eq_true rfl) (Nat.le_of_ble_eq_true rfl) ?_
          refine ct_X6_found (by decide) ?_
          show V_ _ _ _ _ _ _ [_] _
          refine V_ireturn (pc := 96) dX6_copy_96 rfl rfl (fun hR => ?_)
          have h2 := hK _ (by rw [e]; exact h.found (by omega)) (Fm_.rf.ms (by decide))
          rw [e] at h2
          exact h2
        · skip
          rw [b2_n0] at h76
          refine V_aload (pc := 79) dX6_copy_79 rfl ?_
          refine V_iload (pc := 81) dX6_copy_81 rfl ?_
          refine V_iload (pc := 83) dX6_copy_83 rfl ?_
          refine V_callV (pc := 85) (as := [_, _]) (rest := []) dX6_copy_85 ⟨kX6_267, iX4_hasRange, by decide, by decide⟩ rc_11 rfl rfl (Nat.le_of_ble_eq_true rfl) (Nat.le_of_ble_eq_true rfl) ?_
          refine ct_X4_hasRange_11 hj hn (hS2.2 c2).2.2.1 (by omega) ?_
          show V_ _ _ _ _ _ _ [_] _
          refine V_if_ne (tgt := 97) (pc := 88) dX6_copy_88 (by decide) b2_rg (fun h88 => ?_) (fun h88 => ?_)
          · skip
            rw [b2_n0] at h88
            have e : nx_copy a 3 i 0 j n = (1, mc_ a 16 13 i.toNat j.toNat n.toNat) := by rw [ex, if_neg (fun z => z.elim c1 c2), if_neg (fun z => z h59), if_neg (fun z => z.elim (fun z => z h76) (fun z => z h88))]
            refine V_aload (pc := 97) dX6_copy_97 rfl ?_
            refine V_getr (pc := 99) dX6_copy_99 fX6_164 rfl gg_17 rfl ?_
            refine V_iload_n (pc := 102) dX6_copy_102 rfl rfl ?_
            refine V_aload (pc := 103) dX6_copy_103 rfl ?_
            refine V_getr (pc := 105) dX6_copy_105 fX6_164 rfl gg_11 rfl ?_
            refine V_iload (pc := 108) dX6_copy_108 rfl ?_
            refine V_iload (pc := 110) dX6_copy_110 rfl ?_
            refine V_copy (pc := 112) dX6_copy_112 kX6_270 ⟨by decide, by first | decide | exact Nat.le_of_ble_eq_true rfl⟩ gg_18 gg_12 (by have : ((60 : Nat) : Int) = 60 := rfl; omega) (by decide) (by decide) ?_
            refine V_iconst (pc := 115) dX6_copy_115 ?_
            refine V_ireturn (pc := 116) dX6_copy_116 rfl rfl (fun hR => ?_)
            have hcr : CR_ (mc_ a 16 13 i.toNat j.toNat n.toNat) (mc_ σ 18 12 i.toNat j.toNat n.toNat) := by
              refine h.sht (s := 0) (k := 11) rfl (by decide) ⟨fun q hq => by rw [mc_rw (by decide), mc_rw (by decide)]; exact hA.2.2.2.2.2.1 q hq, hRa.mc⟩ (fun q q1 q2 => mc_rw q2) (fun q q1 q2 q3 => mc_rw q3) (fun q hq => by rw [mc_rw (by decide), mc_rw (by decide)]; exact ⟨rfl, rfl⟩) ⟨fun z => ?_, fun z => ⟨?_, ?_, ?_, fun q hq => ?_⟩⟩
              · rw [mc_rw (by decide)] at z; exact absurd z c2
              · rw [mc_rw (by decide)]; exact (hS2.2 c2).1
              · rw [mc_rw (by decide), mc_rw (by decide)]; exact (hS2.2 c2).2.1
              · rw [mc_rw (by decide), mc_rw (by decide)]; exact (hS2.2 c2).2.2.1
              · rw [mc_rw (by decide)] at hq
                show mc_ σ 18 12 i.toNat j.toNat n.toNat 12 q = mc_ a 16 13 i.toNat j.toNat n.toNat 13 q
                unfold mc_
                by_cases c : j.toNat ≤ q ∧ q < j.toNat + n.toNat
                · rw [if_pos ⟨rfl, c⟩, if_pos ⟨rfl, c⟩]
                  exact (hS.2 c1).2.2.2 _ (by omega)
                · rw [if_neg (fun z => c z.2), if_neg (fun z => c z.2)]
                  exact (hS2.2 c2).2.2.2 q hq
            have h2 := hK _ (by rw [e]; exact hcr) (fun q hq => mc_rw (by omega))
            rw [e] at h2
            exact h2
          · skip
            rw [b2_0] at h88
            have e : nx_copy a 3 i 0 j n = fd2_ a 2 := by rw [ex, if_neg (fun z => z.elim c1 c2), if_neg (fun z => z h59), if_pos (Or.inr h88)]
            refine V_aload_n (pc := 91) dX6_copy_91 rfl rfl ?_
            refine V_iconst (pc := 92) dX6_copy_92 ?_
            refine V_callV (pc := 93) (as := [_]) (rest := []) dX6_copy_93 ⟨kX6_159, iX6_found, by decide, by decide⟩ rc_0 rfl rfl (Nat.le_of_ble_eq_true rfl) (Nat.le_of_ble_eq_true rfl) ?_
            refine ct_X6_found (by decide) ?_
            show V_ _ _ _ _ _ _ [_] _
            refine V_ireturn (pc := 96) dX6_copy_96 rfl rfl (fun hR => ?_)
            have h2 := hK _ (by rw [e]; exact h.found (by omega)) (Fm_.rf.ms (by decide))
            rw [e] at h2
            exact h2
      · skip
        have e : nx_copy a 3 i 0 j n = fd2_ a 4 := by rw [ex, if_neg (fun z => z.elim c1 c2), if_pos h59]
        refine V_aload_n (pc := 62) dX6_copy_62 rfl rfl ?_
        refine V_iconst (pc := 63) dX6_copy_63 ?_
        refine V_callV (pc := 64) (as := [_]) (rest := []) dX6_copy_64 ⟨kX6_159, iX6_found, by decide, by decide⟩ rc_0 rfl rfl (Nat.le_of_ble_eq_true rfl) (Nat.le_of_ble_eq_true rfl) ?_
        refine ct_X6_found (by decide) ?_
        show V_ _ _ _ _ _ _ [_] _
        refine V_ireturn (pc := 67) dX6_copy_67 rfl rfl (fun hR => ?_)
        have h2 := hK _ (by rw [e]; exact h.found (by omega)) (Fm_.rf.ms (by decide))
        rw [e] at h2
        exact h2
    · skip
      have e : nx_copy a 3 i 0 j n = fd2_ a 1 := by rw [ex, if_pos (Or.inr (Decidable.byContradiction (fun z => h40 (ct.mpr z))))]
      refine V_aload_n (pc := 43) dX6_copy_43 rfl rfl ?_
      refine V_iconst (pc := 44) dX6_copy_44 ?_
      refine V_callV (pc := 45) (as := [_]) (rest := []) dX6_copy_45 ⟨kX6_159, iX6_found, by decide, by decide⟩ rc_0 rfl rfl (Nat.le_of_ble_eq_true rfl) (Nat.le_of_ble_eq_true rfl) ?_
      refine ct_X6_found (by decide) ?_
      show V_ _ _ _ _ _ _ [_] _
      refine V_ireturn (pc := 48) dX6_copy_48 rfl rfl (fun hR => ?_)
      have h2 := hK _ (by rw [e]; exact h.found (by omega)) (Fm_.rf.ms (by decide))
      rw [e] at h2
      exact h2
theorem ct_X6_copy_17_13 {i j n : Int} (hi : Rg_ i) (hj : Rg_ j) (hn : Rg_ n) (h : CR_ a σ) (hK : ∀ σ1, CR_ (nx_copy a 3 i 1 j n).2 σ1 → Fm_ σ σ1 → post (some (vi_ (nx_copy a 3 i 1 j n).1)) σ1) : V_ l D mX6_copy (CM_ D mX6_copy post) 0 [some (vr_ 0), some (vi_ 3), some (vi_ i), some (vi_ 1), some (vi_ j), some (vi_ n), none, none] [] σ := by
  have hA := h.1.1
  have hW := vv_WF hA
  have hC := h.2.1
  have hD := h.2.2
  have ws := hW.s
  have wn := hW.n
  have wl := hW.l
  have hS : S1_ a σ 3 17 := h.s1 (s := 3) (by decide)
  have hS2 : S1_ a σ 1 13 := h.s1 (s := 1) (by decide)
  have hz := hA.2.2.2.2.2.1 3 (by decide)
  have hz2 := hA.2.2.2.2.2.1 1 (by decide)
  have hRa := hA.2.2.2.2.2.2.2
  have cs : σ 17 1 = 0 ↔ ¬ a 11 3 = -1 := ⟨fun z c => by rw [hS.1 c] at z; exact absurd z (by decide), fun c => (hS.2 c).1⟩
  have ct : σ 13 1 = 0 ↔ ¬ a 11 1 = -1 := ⟨fun z c => by rw [hS2.1 c] at z; exact absurd z (by decide), fun c => (hS2.2 c).1⟩
  have ex : nx_copy a 3 i 1 j n = if a 11 3 = -1 ∨ a 11 1 = -1 then fd2_ a 1 else if a 11 3 ≠ a 11 1 then fd2_ a 4 else if ¬ rg_ i n (a 12 3) ∨ ¬ rg_ j n (a 12 1) then fd2_ a 2 else (1, mc_ a 16 14 i.toNat j.toNat n.toNat) := by unfold nx_copy; rw [if_neg (by omega)]; rfl
  refine V_aload_n (pc := 0) dX6_copy_0 rfl rfl ?_
  refine V_iload_n (pc := 1) dX6_copy_1 rfl rfl ?_
  refine V_callV (pc := 2) (as := [_]) (rest := []) dX6_copy_2 ⟨kX6_151, iX6_sheetAt, by decide, by decide⟩ rc_0 rfl rfl (Nat.le_of_ble_eq_true rfl) (Nat.le_of_ble_eq_true rfl) ?_
  refine ct_X6_sheetAt_17 ?_
  show V_ _ _ _ _ _ _ [_] _
  refine V_astore (pc := 5) dX6_copy_5 (by decide) rfl ?_
  show V_ _ _ _ _ _ [_, _, _, _, _, _, _, _] _ _
  refine V_aload_n (pc := 7) dX6_copy_7 rfl rfl ?_
  refine V_iload_n (pc := 8) dX6_copy_8 rfl rfl ?_
  refine V_callV (pc := 9) (as := [_]) (rest := []) dX6_copy_9 ⟨kX6_151, iX6_sheetAt, by decide, by decide⟩ rc_0 rfl rfl (Nat.le_of_ble_eq_true rfl) (Nat.le_of_ble_eq_true rfl) ?_
  refine ct_X6_sheetAt_13 ?_
  show V_ _ _ _ _ _ _ [_] _
  refine V_astore (pc := 12) dX6_copy_12 (by decide) rfl ?_
  show V_ _ _ _ _ _ [_, _, _, _, _, _, _, _] _ _
  refine V_aload (pc := 14) dX6_copy_14 rfl ?_
  refine V_ifnull (tgt := 24) (pc := 16) dX6_copy_16 (by decide) (fun z => by cases z) (fun _ _ => ?_)
  refine V_aload (pc := 19) dX6_copy_19 rfl ?_
  refine V_ifnonnull (tgt := 27) (pc := 21) dX6_copy_21 (by decide) (fun _ _ => ?_) (fun z => by cases z)
  refine V_aload (pc := 27) dX6_copy_27 rfl ?_
  refine V_geti (pc := 29) dX6_copy_29 fX6_155 rfl gg_17 rfl (fun r29 => ?_)
  refine V_if_ne (tgt := 43) (pc := 32) dX6_copy_32 (by decide) (by first | assumption | decide | omega | exact ba_rg hR | exact b2_rg) (fun h32 => ?_) (fun h32 => ?_)
  · skip
    have e : nx_copy a 3 i 1 j n = fd2_ a 1 := by rw [ex, if_pos (Or.inl (Decidable.byContradiction (fun z => h32 (cs.mpr z))))]
    refine V_aload_n (pc := 43) dX6_copy_43 rfl rfl ?_
    refine V_iconst (pc := 44) dX6_copy_44 ?_
    refine V_callV (pc := 45) (as := [_]) (rest := []) dX6_copy_45 ⟨kX6_159, iX6_found, by decide, by decide⟩ rc_0 rfl rfl (Nat.le_of_ble_eq_true rfl) (Nat.le_of_ble_eq_true rfl) ?_
    refine ct_X6_found (by decide) ?_
    show V_ _ _ _ _ _ _ [_] _
    refine V_ireturn (pc := 48) dX6_copy_48 rfl rfl (fun hR => ?_)
    have h2 := hK _ (by rw [e]; exact h.found (by omega)) (Fm_.rf.ms (by decide))
    rw [e] at h2
    exact h2
  · skip
    have c1 := cs.mp h32
    refine V_aload (pc := 35) dX6_copy_35 rfl ?_
    refine V_geti (pc := 37) dX6_copy_37 fX6_155 rfl gg_13 rfl (fun r37 => ?_)
    refine V_if_eq (tgt := 49) (pc := 40) dX6_copy_40 (by decide) (by first | assumption | decide | omega | exact ba_rg hR | exact b2_rg) (fun h40 => ?_) (fun h40 => ?_)
    · skip
      have c2 := ct.mp h40
      refine V_aload (pc := 49) dX6_copy_49 rfl ?_
      refine V_geti (pc := 51) dX6_copy_51 fX6_264 rfl gg_17 rfl (fun r51 => ?_)
      rw [(hS.2 c1).2.1] at r51 ⊢
      refine V_aload (pc := 54) dX6_copy_54 rfl ?_
      refine V_geti (pc := 56) dX6_copy_56 fX6_264 rfl gg_13 rfl (fun r56 => ?_)
      rw [(hS2.2 c2).2.1] at r56 ⊢
      refine V_icmp_eq (tgt := 68) (pc := 59) dX6_copy_59 (by decide) (by constructor <;> omega) (by constructor <;> omega) (fun h59 => ?_) (fun h59 => ?_)
      · skip
        refine V_aload (pc := 68) dX6_copy_68 rfl ?_
        refine V_iload_n (pc := 70) dX6_copy_70 rfl rfl ?_
        refine V_iload (pc := 71) dX6_copy_71 rfl ?_
        refine V_callV (pc := 73) (as := [_, _]) (rest := []) dX6_copy_73 ⟨kX6_267, iX4_hasRange, by decide, by decide⟩ rc_17 rfl rfl (Nat.le_of_ble_eq_true rfl) (Nat.le_of_ble_eq_true rfl) ?_
        refine ct_X4_hasRange_17 hi hn (hS.2 c1).2.2.1 (by omega) ?_
        show V_ _ _ _ _ _ _ [_] _
        refine V_if_eq (tgt := 91) (pc := 76) dX6_copy_76 (by decide) b2_rg (fun h76 => ?_) (fun h76 => ?_)
        · skip
          rw [b2_0] at h76
          have e : nx_copy a 3 i 1 j n = fd2_ a 2 := by rw [ex, if_neg (fun z => z.elim c1 c2), if_neg (fun z => z h59), if_pos (Or.inl h76)]
          refine V_aload_n (pc := 91) dX6_copy_91 rfl rfl ?_
          refine V_iconst (pc := 92) dX6_copy_92 ?_
          refine V_callV (pc := 93) (as := [_]) (rest := []) dX6_copy_93 ⟨kX6_159, iX6_found, by decide, by decide⟩ rc_0 rfl rfl (Nat.le_of_ble_eq_true rfl) (Nat.le_of_ble_eq_true rfl) ?_
          refine ct_X6_found (by decide) ?_
          show V_ _ _ _ _ _ _ [_] _
          refine V_ireturn (pc := 96) dX6_copy_96 rfl rfl (fun hR => ?_)
          have h2 := hK _ (by rw [e]; exact h.found (by omega)) (Fm_.rf.ms (by decide))
          rw [e] at h2
          exact h2
        · skip
          rw [b2_n0] at h76
          refine V_aload (pc := 79) dX6_copy_79 rfl ?_
          refine V_iload (pc := 81) dX6_copy_81 rfl ?_
          refine V_iload (pc := 83) dX6_copy_83 rfl ?_
          refine V_callV (pc := 85) (as := [_, _]) (rest := []) dX6_copy_85 ⟨kX6_267, iX4_hasRange, by decide, by decide⟩ rc_13 rfl rfl (Nat.le_of_ble_eq_true rfl) (Nat.le_of_ble_eq_true rfl) ?_
          refine ct_X4_hasRange_13 hj hn (hS2.2 c2).2.2.1 (by omega) ?_
          show V_ _ _ _ _ _ _ [_] _
          refine V_if_ne (tgt := 97) (pc := 88) dX6_copy_88 (by decide) b2_rg (fun h88 => ?_) (fun h88 => ?_)
          · skip
            rw [b2_n0] at h88
            have e : nx_copy a 3 i 1 j n = (1, mc_ a 16 14 i.toNat j.toNat n.toNat) := by rw [ex, if_neg (fun z => z.elim c1 c2), if_neg (fun z => z h59), if_neg (fun z => z.elim (fun z => z h76) (fun z => z h88))]
            refine V_aload (pc := 97) dX6_copy_97 rfl ?_
            refine V_getr (pc := 99) dX6_copy_99 fX6_164 rfl gg_17 rfl ?_
            refine V_iload_n (pc := 102) dX6_copy_102 rfl rfl ?_
            refine V_aload (pc := 103) dX6_copy_103 rfl ?_
            refine V_getr (pc := 105) dX6_copy_105 fX6_164 rfl gg_13 rfl ?_
            refine V_iload (pc := 108) dX6_copy_108 rfl ?_
            refine V_iload (pc := 110) dX6_copy_110 rfl ?_
            refine V_copy (pc := 112) dX6_copy_112 kX6_270 ⟨by decide, by first | decide | exact Nat.le_of_ble_eq_true rfl⟩ gg_18 gg_14 (by have : ((60 : Nat) : Int) = 60 := rfl; omega) (by decide) (by decide) ?_
            refine V_iconst (pc := 115) dX6_copy_115 ?_
            refine V_ireturn (pc := 116) dX6_copy_116 rfl rfl (fun hR => ?_)
            have hcr : CR_ (mc_ a 16 14 i.toNat j.toNat n.toNat) (mc_ σ 18 14 i.toNat j.toNat n.toNat) := by
              refine h.sht (s := 1) (k := 13) rfl (by decide) ⟨fun q hq => by rw [mc_rw (by decide), mc_rw (by decide)]; exact hA.2.2.2.2.2.1 q hq, hRa.mc⟩ (fun q q1 q2 => mc_rw q2) (fun q q1 q2 q3 => mc_rw q3) (fun q hq => by rw [mc_rw (by decide), mc_rw (by decide)]; exact ⟨rfl, rfl⟩) ⟨fun z => ?_, fun z => ⟨?_, ?_, ?_, fun q hq => ?_⟩⟩
              · rw [mc_rw (by decide)] at z; exact absurd z c2
              · rw [mc_rw (by decide)]; exact (hS2.2 c2).1
              · rw [mc_rw (by decide), mc_rw (by decide)]; exact (hS2.2 c2).2.1
              · rw [mc_rw (by decide), mc_rw (by decide)]; exact (hS2.2 c2).2.2.1
              · rw [mc_rw (by decide)] at hq
                show mc_ σ 18 14 i.toNat j.toNat n.toNat 14 q = mc_ a 16 14 i.toNat j.toNat n.toNat 14 q
                unfold mc_
                by_cases c : j.toNat ≤ q ∧ q < j.toNat + n.toNat
                · rw [if_pos ⟨rfl, c⟩, if_pos ⟨rfl, c⟩]
                  exact (hS.2 c1).2.2.2 _ (by omega)
                · rw [if_neg (fun z => c z.2), if_neg (fun z => c z.2)]
                  exact (hS2.2 c2).2.2.2 q hq
            have h2 := hK _ (by rw [e]; exact hcr) (fun q hq => mc_rw (by omega))
            rw [e] at h2
            exact h2
          · skip
            rw [b2_0] at h88
            have e : nx_copy a 3 i 1 j n = fd2_ a 2 := by rw [ex, if_neg (fun z => z.elim c1 c2), if_neg (fun z => z h59), if_pos (Or.inr h88)]
            refine V_aload_n (pc := 91) dX6_copy_91 rfl rfl ?_
            refine V_iconst (pc := 92) dX6_copy_92 ?_
            refine V_callV (pc := 93) (as := [_]) (rest := []) dX6_copy_93 ⟨kX6_159, iX6_found, by decide, by decide⟩ rc_0 rfl rfl (Nat.le_of_ble_eq_true rfl) (Nat.le_of_ble_eq_true rfl) ?_
            refine ct_X6_found (by decide) ?_
            show V_ _ _ _ _ _ _ [_] _
            refine V_ireturn (pc := 96) dX6_copy_96 rfl rfl (fun hR => ?_)
            have h2 := hK _ (by rw [e]; exact h.found (by omega)) (Fm_.rf.ms (by decide))
            rw [e] at h2
            exact h2
      · skip
        have e : nx_copy a 3 i 1 j n = fd2_ a 4 := by rw [ex, if_neg (fun z => z.elim c1 c2), if_pos h59]
        refine V_aload_n (pc := 62) dX6_copy_62 rfl rfl ?_
        refine V_iconst (pc := 63) dX6_copy_63 ?_
        refine V_callV (pc := 64) (as := [_]) (rest := []) dX6_copy_64 ⟨kX6_159, iX6_found, by decide, by decide⟩ rc_0 rfl rfl (Nat.le_of_ble_eq_true rfl) (Nat.le_of_ble_eq_true rfl) ?_
        refine ct_X6_found (by decide) ?_
        show V_ _ _ _ _ _ _ [_] _
        refine V_ireturn (pc := 67) dX6_copy_67 rfl rfl (fun hR => ?_)
        have h2 := hK _ (by rw [e]; exact h.found (by omega)) (Fm_.rf.ms (by decide))
        rw [e] at h2
        exact h2
    · skip
      have e : nx_copy a 3 i 1 j n = fd2_ a 1 := by rw [ex, if_pos (Or.inr (Decidable.byContradiction (fun z => h40 (ct.mpr z))))]
      refine V_aload_n (pc := 43) dX6_copy_43 rfl rfl ?_
      refine V_iconst (pc := 44) dX6_copy_44 ?_
      refine V_callV (pc := 45) (as := [_]) (rest := []) dX6_copy_45 ⟨kX6_159, iX6_found, by decide, by decide⟩ rc_0 rfl rfl (Nat.le_of_ble_eq_true rfl) (Nat.le_of_ble_eq_true rfl) ?_
      refine ct_X6_found (by decide) ?_
      show V_ _ _ _ _ _ _ [_] _
      refine V_ireturn (pc := 48) dX6_copy_48 rfl rfl (fun hR => ?_)
      have h2 := hK _ (by rw [e]; exact h.found (by omega)) (Fm_.rf.ms (by decide))
      rw [e] at h2
      exact h2
theorem ct_X6_copy_17_15 {i j n : Int} (hi : Rg_ i) (hj : Rg_ j) (hn : Rg_ n) (h : CR_ a σ) (hK : ∀ σ1, CR_ (nx_copy a 3 i 2 j n).2 σ1 → Fm_ σ σ1 → post (some (vi_ (nx_copy a 3 i 2 j n).1)) σ1) : V_ l D mX6_copy (CM_ D mX6_copy post) 0 [some (vr_ 0), some (vi_ 3), some (vi_ i), some (vi_ 2), some (vi_ j), some (vi_ n), none, none] [] σ := by
  have hA := h.1.1
  have hW := vv_WF hA
  have hC := h.2.1
  have hD := h.2.2
  have ws := hW.s
  have wn := hW.n
  have wl := hW.l
  have hS : S1_ a σ 3 17 := h.s1 (s := 3) (by decide)
  have hS2 : S1_ a σ 2 15 := h.s1 (s := 2) (by decide)
  have hz := hA.2.2.2.2.2.1 3 (by decide)
  have hz2 := hA.2.2.2.2.2.1 2 (by decide)
  have hRa := hA.2.2.2.2.2.2.2
  have cs : σ 17 1 = 0 ↔ ¬ a 11 3 = -1 := ⟨fun z c => by rw [hS.1 c] at z; exact absurd z (by decide), fun c => (hS.2 c).1⟩
  have ct : σ 15 1 = 0 ↔ ¬ a 11 2 = -1 := ⟨fun z c => by rw [hS2.1 c] at z; exact absurd z (by decide), fun c => (hS2.2 c).1⟩
  have ex : nx_copy a 3 i 2 j n = if a 11 3 = -1 ∨ a 11 2 = -1 then fd2_ a 1 else if a 11 3 ≠ a 11 2 then fd2_ a 4 else if ¬ rg_ i n (a 12 3) ∨ ¬ rg_ j n (a 12 2) then fd2_ a 2 else (1, mc_ a 16 15 i.toNat j.toNat n.toNat) := by unfold nx_copy; rw [if_neg (by omega)]; rfl
  refine V_aload_n (pc := 0) dX6_copy_0 rfl rfl ?_
  refine V_iload_n (pc := 1) dX6_copy_1 rfl rfl ?_
  refine V_callV (pc := 2) (as := [_]) (rest := []) dX6_copy_2 ⟨kX6_151, iX6_sheetAt, by decide, by decide⟩ rc_0 rfl rfl (Nat.le_of_ble_eq_true rfl) (Nat.le_of_ble_eq_true rfl) ?_
  refine ct_X6_sheetAt_17 ?_
  show V_ _ _ _ _ _ _ [_] _
  refine V_astore (pc := 5) dX6_copy_5 (by decide) rfl ?_
  show V_ _ _ _ _ _ [_, _, _, _, _, _, _, _] _ _
  refine V_aload_n (pc := 7) dX6_copy_7 rfl rfl ?_
  refine V_iload_n (pc := 8) dX6_copy_8 rfl rfl ?_
  refine V_callV (pc := 9) (as := [_]) (rest := []) dX6_copy_9 ⟨kX6_151, iX6_sheetAt, by decide, by decide⟩ rc_0 rfl rfl (Nat.le_of_ble_eq_true rfl) (Nat.le_of_ble_eq_true rfl) ?_
  refine ct_X6_sheetAt_15 ?_
  show V_ _ _ _ _ _ _ [_] _
  refine V_astore (pc := 12) dX6_copy_12 (by decide) rfl ?_
  show V_ _ _ _ _ _ [_, _, _, _, _, _, _, _] _ _
  refine V_aload (pc := 14) dX6_copy_14 rfl ?_
  refine V_ifnull (tgt := 24) (pc := 16) dX6_copy_16 (by decide) (fun z => by cases z) (fun _ _ => ?_)
  refine V_aload (pc := 19) dX6_copy_19 rfl ?_
  refine V_ifnonnull (tgt := 27) (pc := 21) dX6_copy_21 (by decide) (fun _ _ => ?_) (fun z => by cases z)
  refine V_aload (pc := 27) dX6_copy_27 rfl ?_
  refine V_geti (pc := 29) dX6_copy_29 fX6_155 rfl gg_17 rfl (fun r29 => ?_)
  refine V_if_ne (tgt := 43) (pc := 32) dX6_copy_32 (by decide) (by first | assumption | decide | omega | exact ba_rg hR | exact b2_rg) (fun h32 => ?_) (fun h32 => ?_)
  · skip
    have e : nx_copy a 3 i 2 j n = fd2_ a 1 := by rw [ex, if_pos (Or.inl (Decidable.byContradiction (fun z => h32 (cs.mpr z))))]
    refine V_aload_n (pc := 43) dX6_copy_43 rfl rfl ?_
    refine V_iconst (pc := 44) dX6_copy_44 ?_
    refine V_callV (pc := 45) (as := [_]) (rest := []) dX6_copy_45 ⟨kX6_159, iX6_found, by decide, by decide⟩ rc_0 rfl rfl (Nat.le_of_ble_eq_true rfl) (Nat.le_of_ble_eq_true rfl) ?_
    refine ct_X6_found (by decide) ?_
    show V_ _ _ _ _ _ _ [_] _
    refine V_ireturn (pc := 48) dX6_copy_48 rfl rfl (fun hR => ?_)
    have h2 := hK _ (by rw [e]; exact h.found (by omega)) (Fm_.rf.ms (by decide))
    rw [e] at h2
    exact h2
  · skip
    have c1 := cs.mp h32
    refine V_aload (pc := 35) dX6_copy_35 rfl ?_
    refine V_geti (pc := 37) dX6_copy_37 fX6_155 rfl gg_15 rfl (fun r37 => ?_)
    refine V_if_eq (tgt := 49) (pc := 40) dX6_copy_40 (by decide) (by first | assumption | decide | omega | exact ba_rg hR | exact b2_rg) (fun h40 => ?_) (fun h40 => ?_)
    · skip
      have c2 := ct.mp h40
      refine V_aload (pc := 49) dX6_copy_49 rfl ?_
      refine V_geti (pc := 51) dX6_copy_51 fX6_264 rfl gg_17 rfl (fun r51 => ?_)
      rw [(hS.2 c1).2.1] at r51 ⊢
      refine V_aload (pc := 54) dX6_copy_54 rfl ?_
      refine V_geti (pc := 56) dX6_copy_56 fX6_264 rfl gg_15 rfl (fun r56 => ?_)
      rw [(hS2.2 c2).2.1] at r56 ⊢
      refine V_icmp_eq (tgt := 68) (pc := 59) dX6_copy_59 (by decide) (by constructor <;> omega) (by constructor <;> omega) (fun h59 => ?_) (fun h59 => ?_)
      · skip
        refine V_aload (pc := 68) dX6_copy_68 rfl ?_
        refine V_iload_n (pc := 70) dX6_copy_70 rfl rfl ?_
        refine V_iload (pc := 71) dX6_copy_71 rfl ?_
        refine V_callV (pc := 73) (as := [_, _]) (rest := []) dX6_copy_73 ⟨kX6_267, iX4_hasRange, by decide, by decide⟩ rc_17 rfl rfl (Nat.le_of_ble_eq_true rfl) (Nat.le_of_ble_eq_true rfl) ?_
        refine ct_X4_hasRange_17 hi hn (hS.2 c1).2.2.1 (by omega) ?_
        show V_ _ _ _ _ _ _ [_] _
        refine V_if_eq (tgt := 91) (pc := 76) dX6_copy_76 (by decide) b2_rg (fun h76 => ?_) (fun h76 => ?_)
        · skip
          rw [b2_0] at h76
          have e : nx_copy a 3 i 2 j n = fd2_ a 2 := by rw [ex, if_neg (fun z => z.elim c1 c2), if_neg (fun z => z h59), if_pos (Or.inl h76)]
          refine V_aload_n (pc := 91) dX6_copy_91 rfl rfl ?_
          refine V_iconst (pc := 92) dX6_copy_92 ?_
          refine V_callV (pc := 93) (as := [_]) (rest := []) dX6_copy_93 ⟨kX6_159, iX6_found, by decide, by decide⟩ rc_0 rfl rfl (Nat.le_of_ble_eq_true rfl) (Nat.le_of_ble_eq_true rfl) ?_
          refine ct_X6_found (by decide) ?_
          show V_ _ _ _ _ _ _ [_] _
          refine V_ireturn (pc := 96) dX6_copy_96 rfl rfl (fun hR => ?_)
          have h2 := hK _ (by rw [e]; exact h.found (by omega)) (Fm_.rf.ms (by decide))
          rw [e] at h2
          exact h2
        · skip
          rw [b2_n0] at h76
          refine V_aload (pc := 79) dX6_copy_79 rfl ?_
          refine V_iload (pc := 81) dX6_copy_81 rfl ?_
          refine V_iload (pc := 83) dX6_copy_83 rfl ?_
          refine V_callV (pc := 85) (as := [_, _]) (rest := []) dX6_copy_85 ⟨kX6_267, iX4_hasRange, by decide, by decide⟩ rc_15 rfl rfl (Nat.le_of_ble_eq_true rfl) (Nat.le_of_ble_eq_true rfl) ?_
          refine ct_X4_hasRange_15 hj hn (hS2.2 c2).2.2.1 (by omega) ?_
          show V_ _ _ _ _ _ _ [_] _
          refine V_if_ne (tgt := 97) (pc := 88) dX6_copy_88 (by decide) b2_rg (fun h88 => ?_) (fun h88 => ?_)
          · skip
            rw [b2_n0] at h88
            have e : nx_copy a 3 i 2 j n = (1, mc_ a 16 15 i.toNat j.toNat n.toNat) := by rw [ex, if_neg (fun z => z.elim c1 c2), if_neg (fun z => z h59), if_neg (fun z => z.elim (fun z => z h76) (fun z => z h88))]
            refine V_aload (pc := 97) dX6_copy_97 rfl ?_
            refine V_getr (pc := 99) dX6_copy_99 fX6_164 rfl gg_17 rfl ?_
            refine V_iload_n (pc := 102) dX6_copy_102 rfl rfl ?_
            refine V_aload (pc := 103) dX6_copy_103 rfl ?_
            refine V_getr (pc := 105) dX6_copy_105 fX6_164 rfl gg_15 rfl ?_
            refine V_iload (pc := 108) dX6_copy_108 rfl ?_
            refine V_iload (pc := 110) dX6_copy_110 rfl ?_
            refine V_copy (pc := 112) dX6_copy_112 kX6_270 ⟨by decide, by first | decide | exact Nat.le_of_ble_eq_true rfl⟩ gg_18 gg_16 (by have : ((60 : Nat) : Int) = 60 := rfl; omega) (by decide) (by decide) ?_
            refine V_iconst (pc := 115) dX6_copy_115 ?_
            refine V_ireturn (pc := 116) dX6_copy_116 rfl rfl (fun hR => ?_)
            have hcr : CR_ (mc_ a 16 15 i.toNat j.toNat n.toNat) (mc_ σ 18 16 i.toNat j.toNat n.toNat) := by
              refine h.sht (s := 2) (k := 15) rfl (by decide) ⟨fun q hq => by rw [mc_rw (by decide), mc_rw (by decide)]; exact hA.2.2.2.2.2.1 q hq, hRa.mc⟩ (fun q q1 q2 => mc_rw q2) (fun q q1 q2 q3 => mc_rw q3) (fun q hq => by rw [mc_rw (by decide), mc_rw (by decide)]; exact ⟨rfl, rfl⟩) ⟨fun z => ?_, fun z => ⟨?_, ?_, ?_, fun q hq => ?_⟩⟩
              · rw [mc_rw (by decide)] at z; exact absurd z c2
              · rw [mc_rw (by decide)]; exact (hS2.2 c2).1
              · rw [mc_rw (by decide), mc_rw (by decide)]; exact (hS2.2 c2).2.1
              · rw [mc_rw (by decide), mc_rw (by decide)]; exact (hS2.2 c2).2.2.1
              · rw [mc_rw (by decide)] at hq
                show mc_ σ 18 16 i.toNat j.toNat n.toNat 16 q = mc_ a 16 15 i.toNat j.toNat n.toNat 15 q
                unfold mc_
                by_cases c : j.toNat ≤ q ∧ q < j.toNat + n.toNat
                · rw [if_pos ⟨rfl, c⟩, if_pos ⟨rfl, c⟩]
                  exact (hS.2 c1).2.2.2 _ (by omega)
                · rw [if_neg (fun z => c z.2), if_neg (fun z => c z.2)]
                  exact (hS2.2 c2).2.2.2 q hq
            have h2 := hK _ (by rw [e]; exact hcr) (fun q hq => mc_rw (by omega))
            rw [e] at h2
            exact h2
          · skip
            rw [b2_0] at h88
            have e : nx_copy a 3 i 2 j n = fd2_ a 2 := by rw [ex, if_neg (fun z => z.elim c1 c2), if_neg (fun z => z h59), if_pos (Or.inr h88)]
            refine V_aload_n (pc := 91) dX6_copy_91 rfl rfl ?_
            refine V_iconst (pc := 92) dX6_copy_92 ?_
            refine V_callV (pc := 93) (as := [_]) (rest := []) dX6_copy_93 ⟨kX6_159, iX6_found, by decide, by decide⟩ rc_0 rfl rfl (Nat.le_of_ble_eq_true rfl) (Nat.le_of_ble_eq_true rfl) ?_
            refine ct_X6_found (by decide) ?_
            show V_ _ _ _ _ _ _ [_] _
            refine V_ireturn (pc := 96) dX6_copy_96 rfl rfl (fun hR => ?_)
            have h2 := hK _ (by rw [e]; exact h.found (by omega)) (Fm_.rf.ms (by decide))
            rw [e] at h2
            exact h2
      · skip
        have e : nx_copy a 3 i 2 j n = fd2_ a 4 := by rw [ex, if_neg (fun z => z.elim c1 c2), if_pos h59]
        refine V_aload_n (pc := 62) dX6_copy_62 rfl rfl ?_
        refine V_iconst (pc := 63) dX6_copy_63 ?_
        refine V_callV (pc := 64) (as := [_]) (rest := []) dX6_copy_64 ⟨kX6_159, iX6_found, by decide, by decide⟩ rc_0 rfl rfl (Nat.le_of_ble_eq_true rfl) (Nat.le_of_ble_eq_true rfl) ?_
        refine ct_X6_found (by decide) ?_
        show V_ _ _ _ _ _ _ [_] _
        refine V_ireturn (pc := 67) dX6_copy_67 rfl rfl (fun hR => ?_)
        have h2 := hK _ (by rw [e]; exact h.found (by omega)) (Fm_.rf.ms (by decide))
        rw [e] at h2
        exact h2
    · skip
      have e : nx_copy a 3 i 2 j n = fd2_ a 1 := by rw [ex, if_pos (Or.inr (Decidable.byContradiction (fun z => h40 (ct.mpr z))))]
      refine V_aload_n (pc := 43) dX6_copy_43 rfl rfl ?_
      refine V_iconst (pc := 44) dX6_copy_44 ?_
      refine V_callV (pc := 45) (as := [_]) (rest := []) dX6_copy_45 ⟨kX6_159, iX6_found, by decide, by decide⟩ rc_0 rfl rfl (Nat.le_of_ble_eq_true rfl) (Nat.le_of_ble_eq_true rfl) ?_
      refine ct_X6_found (by decide) ?_
      show V_ _ _ _ _ _ _ [_] _
      refine V_ireturn (pc := 48) dX6_copy_48 rfl rfl (fun hR => ?_)
      have h2 := hK _ (by rw [e]; exact h.found (by omega)) (Fm_.rf.ms (by decide))
      rw [e] at h2
      exact h2
theorem ct_X6_copy_17_17 {i j n : Int} (hi : Rg_ i) (hj : Rg_ j) (hn : Rg_ n) (h : CR_ a σ) (hK : ∀ σ1, CR_ (nx_copy a 3 i 3 j n).2 σ1 → Fm_ σ σ1 → post (some (vi_ (nx_copy a 3 i 3 j n).1)) σ1) : V_ l D mX6_copy (CM_ D mX6_copy post) 0 [some (vr_ 0), some (vi_ 3), some (vi_ i), some (vi_ 3), some (vi_ j), some (vi_ n), none, none] [] σ := by
  have hA := h.1.1
  have hW := vv_WF hA
  have hC := h.2.1
  have hD := h.2.2
  have ws := hW.s
  have wn := hW.n
  have wl := hW.l
  have hS : S1_ a σ 3 17 := h.s1 (s := 3) (by decide)
  have hS2 : S1_ a σ 3 17 := h.s1 (s := 3) (by decide)
  have hz := hA.2.2.2.2.2.1 3 (by decide)
  have hz2 := hA.2.2.2.2.2.1 3 (by decide)
  have hRa := hA.2.2.2.2.2.2.2
  have cs : σ 17 1 = 0 ↔ ¬ a 11 3 = -1 := ⟨fun z c => by rw [hS.1 c] at z; exact absurd z (by decide), fun c => (hS.2 c).1⟩
  have ct : σ 17 1 = 0 ↔ ¬ a 11 3 = -1 := ⟨fun z c => by rw [hS2.1 c] at z; exact absurd z (by decide), fun c => (hS2.2 c).1⟩
  have ex : nx_copy a 3 i 3 j n = if a 11 3 = -1 ∨ a 11 3 = -1 then fd2_ a 1 else if a 11 3 ≠ a 11 3 then fd2_ a 4 else if ¬ rg_ i n (a 12 3) ∨ ¬ rg_ j n (a 12 3) then fd2_ a 2 else (1, mc_ a 16 16 i.toNat j.toNat n.toNat) := by unfold nx_copy; rw [if_neg (by omega)]; rfl
  refine V_aload_n (pc := 0) dX6_copy_0 rfl rfl ?_
  refine V_iload_n (pc := 1) dX6_copy_1 rfl rfl ?_
  refine V_callV (pc := 2) (as := [_]) (rest := []) dX6_copy_2 ⟨kX6_151, iX6_sheetAt, by decide, by decide⟩ rc_0 rfl rfl (Nat.le_of_ble_eq_true rfl) (Nat.le_of_ble_eq_true rfl) ?_
  refine ct_X6_sheetAt_17 ?_
  show V_ _ _ _ _ _ _ [_] _
  refine V_astore (pc := 5) dX6_copy_5 (by decide) rfl ?_
  show V_ _ _ _ _ _ [_, _, _, _, _, _, _, _] _ _
  refine V_aload_n (pc := 7) dX6_copy_7 rfl rfl ?_
  refine V_iload_n (pc := 8) dX6_copy_8 rfl rfl ?_
  refine V_callV (pc := 9) (as := [_]) (rest := []) dX6_copy_9 ⟨kX6_151, iX6_sheetAt, by decide, by decide⟩ rc_0 rfl rfl (Nat.le_of_ble_eq_true rfl) (Nat.le_of_ble_eq_true rfl) ?_
  refine ct_X6_sheetAt_17 ?_
  show V_ _ _ _ _ _ _ [_] _
  refine V_astore (pc := 12) dX6_copy_12 (by decide) rfl ?_
  show V_ _ _ _ _ _ [_, _, _, _, _, _, _, _] _ _
  refine V_aload (pc := 14) dX6_copy_14 rfl ?_
  refine V_ifnull (tgt := 24) (pc := 16) dX6_copy_16 (by decide) (fun z => by cases z) (fun _ _ => ?_)
  refine V_aload (pc := 19) dX6_copy_19 rfl ?_
  refine V_ifnonnull (tgt := 27) (pc := 21) dX6_copy_21 (by decide) (fun _ _ => ?_) (fun z => by cases z)
  refine V_aload (pc := 27) dX6_copy_27 rfl ?_
  refine V_geti (pc := 29) dX6_copy_29 fX6_155 rfl gg_17 rfl (fun r29 => ?_)
  refine V_if_ne (tgt := 43) (pc := 32) dX6_copy_32 (by decide) (by first | assumption | decide | omega | exact ba_rg hR | exact b2_rg) (fun h32 => ?_) (fun h32 => ?_)
  · skip
    have e : nx_copy a 3 i 3 j n = fd2_ a 1 := by rw [ex, if_pos (Or.inl (Decidable.byContradiction (fun z => h32 (cs.mpr z))))]
    refine V_aload_n (pc := 43) dX6_copy_43 rfl rfl ?_
    refine V_iconst (pc := 44) dX6_copy_44 ?_
    refine V_callV (pc := 45) (as := [_]) (rest := []) dX6_copy_45 ⟨kX6_159, iX6_found, by decide, by decide⟩ rc_0 rfl rfl (Nat.le_of_ble_eq_true rfl) (Nat.le_of_ble_eq_true rfl) ?_
    refine ct_X6_found (by decide) ?_
    show V_ _ _ _ _ _ _ [_] _
    refine V_ireturn (pc := 48) dX6_copy_48 rfl rfl (fun hR => ?_)
    have h2 := hK _ (by rw [e]; exact h.found (by omega)) (Fm_.rf.ms (by decide))
    rw [e] at h2
    exact h2
  · skip
    have c1 := cs.mp h32
    refine V_aload (pc := 35) dX6_copy_35 rfl ?_
    refine V_geti (pc := 37) dX6_copy_37 fX6_155 rfl gg_17 rfl (fun r37 => ?_)
    refine V_if_eq (tgt := 49) (pc := 40) dX6_copy_40 (by decide) (by first | assumption | decide | omega | exact ba_rg hR | exact b2_rg) (fun h40 => ?_) (fun h40 => ?_)
    · skip
      have c2 := ct.mp h40
      refine V_aload (pc := 49) dX6_copy_49 rfl ?_
      refine V_geti (pc := 51) dX6_copy_51 fX6_264 rfl gg_17 rfl (fun r51 => ?_)
      rw [(hS.2 c1).2.1] at r51 ⊢
      refine V_aload (pc := 54) dX6_copy_54 rfl ?_
      refine V_geti (pc := 56) dX6_copy_56 fX6_264 rfl gg_17 rfl (fun r56 => ?_)
      rw [(hS2.2 c2).2.1] at r56 ⊢
      refine V_icmp_eq (tgt := 68) (pc := 59) dX6_copy_59 (by decide) (by constructor <;> omega) (by constructor <;> omega) (fun h59 => ?_) (fun h59 => ?_)
      · skip
        refine V_aload (pc := 68) dX6_copy_68 rfl ?_
        refine V_iload_n (pc := 70) dX6_copy_70 rfl rfl ?_
        refine V_iload (pc := 71) dX6_copy_71 rfl ?_
        refine V_callV (pc := 73) (as := [_, _]) (rest := []) dX6_copy_73 ⟨kX6_267, iX4_hasRange, by decide, by decide⟩ rc_17 rfl rfl (Nat.le_of_ble_eq_true rfl) (Nat.le_of_ble_eq_true rfl) ?_
        refine ct_X4_hasRange_17 hi hn (hS.2 c1).2.2.1 (by omega) ?_
        show V_ _ _ _ _ _ _ [_] _
        refine V_if_eq (tgt := 91) (pc := 76) dX6_copy_76 (by decide) b2_rg (fun h76 => ?_) (fun h76 => ?_)
        · skip
          rw [b2_0] at h76
          have e : nx_copy a 3 i 3 j n = fd2_ a 2 := by rw [ex, if_neg (fun z => z.elim c1 c2), if_neg (fun z => z h59), if_pos (Or.inl h76)]
          refine V_aload_n (pc := 91) dX6_copy_91 rfl rfl ?_
          refine V_iconst (pc := 92) dX6_copy_92 ?_
          refine V_callV (pc := 93) (as := [_]) (rest := []) dX6_copy_93 ⟨kX6_159, iX6_found, by decide, by decide⟩ rc_0 rfl rfl (Nat.le_of_ble_eq_true rfl) (Nat.le_of_ble_eq_true rfl) ?_
          refine ct_X6_found (by decide) ?_
          show V_ _ _ _ _ _ _ [_] _
          refine V_ireturn (pc := 96) dX6_copy_96 rfl rfl (fun hR => ?_)
          have h2 := hK _ (by rw [e]; exact h.found (by omega)) (Fm_.rf.ms (by decide))
          rw [e] at h2
          exact h2
        · skip
          rw [b2_n0] at h76
          refine V_aload (pc := 79) dX6_copy_79 rfl ?_
          refine V_iload (pc := 81) dX6_copy_81 rfl ?_
          refine V_iload (pc := 83) dX6_copy_83 rfl ?_
          refine V_callV (pc := 85) (as := [_, _]) (rest := []) dX6_copy_85 ⟨kX6_267, iX4_hasRange, by decide, by decide⟩ rc_17 rfl rfl (Nat.le_of_ble_eq_true rfl) (Nat.le_of_ble_eq_true rfl) ?_
          refine ct_X4_hasRange_17 hj hn (hS2.2 c2).2.2.1 (by omega) ?_
          show V_ _ _ _ _ _ _ [_] _
          refine V_if_ne (tgt := 97) (pc := 88) dX6_copy_88 (by decide) b2_rg (fun h88 => ?_) (fun h88 => ?_)
          · skip
            rw [b2_n0] at h88
            have e : nx_copy a 3 i 3 j n = (1, mc_ a 16 16 i.toNat j.toNat n.toNat) := by rw [ex, if_neg (fun z => z.elim c1 c2), if_neg (fun z => z h59), if_neg (fun z => z.elim (fun z => z h76) (fun z => z h88))]
            refine V_aload (pc := 97) dX6_copy_97 rfl ?_
            refine V_getr (pc := 99) dX6_copy_99 fX6_164 rfl gg_17 rfl ?_
            refine V_iload_n (pc := 102) dX6_copy_102 rfl rfl ?_
            refine V_aload (pc := 103) dX6_copy_103 rfl ?_
            refine V_getr (pc := 105) dX6_copy_105 fX6_164 rfl gg_17 rfl ?_
            refine V_iload (pc := 108) dX6_copy_108 rfl ?_
            refine V_iload (pc := 110) dX6_copy_110 rfl ?_
            refine V_copy (pc := 112) dX6_copy_112 kX6_270 ⟨by decide, by first | decide | exact Nat.le_of_ble_eq_true rfl⟩ gg_18 gg_18 (by have : ((60 : Nat) : Int) = 60 := rfl; omega) (by decide) (by decide) ?_
            refine V_iconst (pc := 115) dX6_copy_115 ?_
            refine V_ireturn (pc := 116) dX6_copy_116 rfl rfl (fun hR => ?_)
            have hcr : CR_ (mc_ a 16 16 i.toNat j.toNat n.toNat) (mc_ σ 18 18 i.toNat j.toNat n.toNat) := by
              refine h.sht (s := 3) (k := 17) rfl (by decide) ⟨fun q hq => by rw [mc_rw (by decide), mc_rw (by decide)]; exact hA.2.2.2.2.2.1 q hq, hRa.mc⟩ (fun q q1 q2 => mc_rw q2) (fun q q1 q2 q3 => mc_rw q3) (fun q hq => by rw [mc_rw (by decide), mc_rw (by decide)]; exact ⟨rfl, rfl⟩) ⟨fun z => ?_, fun z => ⟨?_, ?_, ?_, fun q hq => ?_⟩⟩
              · rw [mc_rw (by decide)] at z; exact absurd z c2
              · rw [mc_rw (by decide)]; exact (hS2.2 c2).1
              · rw [mc_rw (by decide), mc_rw (by decide)]; exact (hS2.2 c2).2.1
              · rw [mc_rw (by decide), mc_rw (by decide)]; exact (hS2.2 c2).2.2.1
              · rw [mc_rw (by decide)] at hq
                show mc_ σ 18 18 i.toNat j.toNat n.toNat 18 q = mc_ a 16 16 i.toNat j.toNat n.toNat 16 q
                unfold mc_
                by_cases c : j.toNat ≤ q ∧ q < j.toNat + n.toNat
                · rw [if_pos ⟨rfl, c⟩, if_pos ⟨rfl, c⟩]
                  exact (hS.2 c1).2.2.2 _ (by omega)
                · rw [if_neg (fun z => c z.2), if_neg (fun z => c z.2)]
                  exact (hS2.2 c2).2.2.2 q hq
            have h2 := hK _ (by rw [e]; exact hcr) (fun q hq => mc_rw (by omega))
            rw [e] at h2
            exact h2
          · skip
            rw [b2_0] at h88
            have e : nx_copy a 3 i 3 j n = fd2_ a 2 := by rw [ex, if_neg (fun z => z.elim c1 c2), if_neg (fun z => z h59), if_pos (Or.inr h88)]
            refine V_aload_n (pc := 91) dX6_copy_91 rfl rfl ?_
            refine V_iconst (pc := 92) dX6_copy_92 ?_
            refine V_callV (pc := 93) (as := [_]) (rest := []) dX6_copy_93 ⟨kX6_159, iX6_found, by decide, by decide⟩ rc_0 rfl rfl (Nat.le_of_ble_eq_true rfl) (Nat.le_of_ble_eq_true rfl) ?_
            refine ct_X6_found (by decide) ?_
            show V_ _ _ _ _ _ _ [_] _
            refine V_ireturn (pc := 96) dX6_copy_96 rfl rfl (fun hR => ?_)
            have h2 := hK _ (by rw [e]; exact h.found (by omega)) (Fm_.rf.ms (by decide))
            rw [e] at h2
            exact h2
      · skip
        have e : nx_copy a 3 i 3 j n = fd2_ a 4 := by rw [ex, if_neg (fun z => z.elim c1 c2), if_pos h59]
        refine V_aload_n (pc := 62) dX6_copy_62 rfl rfl ?_
        refine V_iconst (pc := 63) dX6_copy_63 ?_
        refine V_callV (pc := 64) (as := [_]) (rest := []) dX6_copy_64 ⟨kX6_159, iX6_found, by decide, by decide⟩ rc_0 rfl rfl (Nat.le_of_ble_eq_true rfl) (Nat.le_of_ble_eq_true rfl) ?_
        refine ct_X6_found (by decide) ?_
        show V_ _ _ _ _ _ _ [_] _
        refine V_ireturn (pc := 67) dX6_copy_67 rfl rfl (fun hR => ?_)
        have h2 := hK _ (by rw [e]; exact h.found (by omega)) (Fm_.rf.ms (by decide))
        rw [e] at h2
        exact h2
    · skip
      have e : nx_copy a 3 i 3 j n = fd2_ a 1 := by rw [ex, if_pos (Or.inr (Decidable.byContradiction (fun z => h40 (ct.mpr z))))]
      refine V_aload_n (pc := 43) dX6_copy_43 rfl rfl ?_
      refine V_iconst (pc := 44) dX6_copy_44 ?_
      refine V_callV (pc := 45) (as := [_]) (rest := []) dX6_copy_45 ⟨kX6_159, iX6_found, by decide, by decide⟩ rc_0 rfl rfl (Nat.le_of_ble_eq_true rfl) (Nat.le_of_ble_eq_true rfl) ?_
      refine ct_X6_found (by decide) ?_
      show V_ _ _ _ _ _ _ [_] _
      refine V_ireturn (pc := 48) dX6_copy_48 rfl rfl (fun hR => ?_)
      have h2 := hK _ (by rw [e]; exact h.found (by omega)) (Fm_.rf.ms (by decide))
      rw [e] at h2
      exact h2
theorem ct_X6_copy {s i t j n : Int} (hs : Rg_ s) (hi : Rg_ i) (ht : Rg_ t) (hj : Rg_ j) (hn : Rg_ n) (h : CR_ a σ) (hK : ∀ σ1, CR_ (nx_copy a s i t j n).2 σ1 → Fm_ σ σ1 → post (some (vi_ (nx_copy a s i t j n).1)) σ1) : V_ l D mX6_copy (CM_ D mX6_copy post) 0 [some (vr_ 0), some (vi_ s), some (vi_ i), some (vi_ t), some (vi_ j), some (vi_ n), none, none] [] σ := by
  by_cases c0 : s = 0
  · subst c0
    by_cases d0 : t = 0
    · subst d0; exact ct_X6_copy_11_11 hi hj hn h hK
    by_cases d1 : t = 1
    · subst d1; exact ct_X6_copy_11_13 hi hj hn h hK
    by_cases d2 : t = 2
    · subst d2; exact ct_X6_copy_11_15 hi hj hn h hK
    by_cases d3 : t = 3
    · subst d3; exact ct_X6_copy_11_17 hi hj hn h hK
    have e : nx_copy a 0 i t j n = (-2, a) := if_pos (Or.inr (by omega))
    refine V_aload_n (pc := 0) dX6_copy_0 rfl rfl ?_
    refine V_iload_n (pc := 1) dX6_copy_1 rfl rfl ?_
    refine V_callV (pc := 2) (as := [_]) (rest := []) dX6_copy_2 ⟨kX6_151, iX6_sheetAt, by decide, by decide⟩ rc_0 rfl rfl (Nat.le_of_ble_eq_true rfl) (Nat.le_of_ble_eq_true rfl) ?_
    refine ct_X6_sheetAt_11 ?_
    show V_ _ _ _ _ _ _ [_] _
    refine V_astore (pc := 5) dX6_copy_5 (by decide) rfl ?_
    show V_ _ _ _ _ _ [_, _, _, _, _, _, _, _] _ _
    refine V_aload_n (pc := 7) dX6_copy_7 rfl rfl ?_
    refine V_iload_n (pc := 8) dX6_copy_8 rfl rfl ?_
    refine V_callV (pc := 9) (as := [_]) (rest := []) dX6_copy_9 ⟨kX6_151, iX6_sheetAt, by decide, by decide⟩ rc_0 rfl rfl (Nat.le_of_ble_eq_true rfl) (Nat.le_of_ble_eq_true rfl) ?_
    refine ct_X6_sheetAt_n ht (by omega) ?_
    show V_ _ _ _ _ _ _ [_] _
    refine V_astore (pc := 12) dX6_copy_12 (by decide) rfl ?_
    show V_ _ _ _ _ _ [_, _, _, _, _, _, _, _] _ _
    refine V_aload (pc := 14) dX6_copy_14 rfl ?_
    refine V_ifnull (tgt := 24) (pc := 16) dX6_copy_16 (by decide) (fun z => by cases z) (fun _ _ => ?_)
    refine V_aload (pc := 19) dX6_copy_19 rfl ?_
    refine V_ifnonnull (tgt := 27) (pc := 21) dX6_copy_21 (by decide) (fun _ z => by cases z) (fun _ => ?_)
    refine V_bipush (pc := 24) dX6_copy_24 (by decide) ?_
    refine V_ireturn (pc := 26) dX6_copy_26 rfl rfl (fun hR => ?_)
    have h2 := hK σ (by rw [e]; exact h) Fm_.rf
    rw [e] at h2
    exact h2
  by_cases c1 : s = 1
  · subst c1
    by_cases d0 : t = 0
    · subst d0; exact ct_X6_copy_13_11 hi hj hn h hK
    by_cases d1 : t = 1
    · subst d1; exact ct_X6_copy_13_13 hi hj hn h hK
    by_cases d2 : t = 2
    · subst d2; exact ct_X6_copy_13_15 hi hj hn h hK
    by_cases d3 : t = 3
    · subst d3; exact ct_X6_copy_13_17 hi hj hn h hK
    have e : nx_copy a 1 i t j n = (-2, a) := if_pos (Or.inr (by omega))
    refine V_aload_n (pc := 0) dX6_copy_0 rfl rfl ?_
    refine V_iload_n (pc := 1) dX6_copy_1 rfl rfl ?_
    refine V_callV (pc := 2) (as := [_]) (rest := []) dX6_copy_2 ⟨kX6_151, iX6_sheetAt, by decide, by decide⟩ rc_0 rfl rfl (Nat.le_of_ble_eq_true rfl) (Nat.le_of_ble_eq_true rfl) ?_
    refine ct_X6_sheetAt_13 ?_
    show V_ _ _ _ _ _ _ [_] _
    refine V_astore (pc := 5) dX6_copy_5 (by decide) rfl ?_
    show V_ _ _ _ _ _ [_, _, _, _, _, _, _, _] _ _
    refine V_aload_n (pc := 7) dX6_copy_7 rfl rfl ?_
    refine V_iload_n (pc := 8) dX6_copy_8 rfl rfl ?_
    refine V_callV (pc := 9) (as := [_]) (rest := []) dX6_copy_9 ⟨kX6_151, iX6_sheetAt, by decide, by decide⟩ rc_0 rfl rfl (Nat.le_of_ble_eq_true rfl) (Nat.le_of_ble_eq_true rfl) ?_
    refine ct_X6_sheetAt_n ht (by omega) ?_
    show V_ _ _ _ _ _ _ [_] _
    refine V_astore (pc := 12) dX6_copy_12 (by decide) rfl ?_
    show V_ _ _ _ _ _ [_, _, _, _, _, _, _, _] _ _
    refine V_aload (pc := 14) dX6_copy_14 rfl ?_
    refine V_ifnull (tgt := 24) (pc := 16) dX6_copy_16 (by decide) (fun z => by cases z) (fun _ _ => ?_)
    refine V_aload (pc := 19) dX6_copy_19 rfl ?_
    refine V_ifnonnull (tgt := 27) (pc := 21) dX6_copy_21 (by decide) (fun _ z => by cases z) (fun _ => ?_)
    refine V_bipush (pc := 24) dX6_copy_24 (by decide) ?_
    refine V_ireturn (pc := 26) dX6_copy_26 rfl rfl (fun hR => ?_)
    have h2 := hK σ (by rw [e]; exact h) Fm_.rf
    rw [e] at h2
    exact h2
  by_cases c2 : s = 2
  · subst c2
    by_cases d0 : t = 0
    · subst d0; exact ct_X6_copy_15_11 hi hj hn h hK
    by_cases d1 : t = 1
    · subst d1; exact ct_X6_copy_15_13 hi hj hn h hK
    by_cases d2 : t = 2
    · subst d2; exact ct_X6_copy_15_15 hi hj hn h hK
    by_cases d3 : t = 3
    · subst d3; exact ct_X6_copy_15_17 hi hj hn h hK
    have e : nx_copy a 2 i t j n = (-2, a) := if_pos (Or.inr (by omega))
    refine V_aload_n (pc := 0) dX6_copy_0 rfl rfl ?_
    refine V_iload_n (pc := 1) dX6_copy_1 rfl rfl ?_
    refine V_callV (pc := 2) (as := [_]) (rest := []) dX6_copy_2 ⟨kX6_151, iX6_sheetAt, by decide, by decide⟩ rc_0 rfl rfl (Nat.le_of_ble_eq_true rfl) (Nat.le_of_ble_eq_true rfl) ?_
    refine ct_X6_sheetAt_15 ?_
    show V_ _ _ _ _ _ _ [_] _
    refine V_astore (pc := 5) dX6_copy_5 (by decide) rfl ?_
    show V_ _ _ _ _ _ [_, _, _, _, _, _, _, _] _ _
    refine V_aload_n (pc := 7) dX6_copy_7 rfl rfl ?_
    refine V_iload_n (pc := 8) dX6_copy_8 rfl rfl ?_
    refine V_callV (pc := 9) (as := [_]) (rest := []) dX6_copy_9 ⟨kX6_151, iX6_sheetAt, by decide, by decide⟩ rc_0 rfl rfl (Nat.le_of_ble_eq_true rfl) (Nat.le_of_ble_eq_true rfl) ?_
    refine ct_X6_sheetAt_n ht (by omega) ?_
    show V_ _ _ _ _ _ _ [_] _
    refine V_astore (pc := 12) dX6_copy_12 (by decide) rfl ?_
    show V_ _ _ _ _ _ [_, _, _, _, _, _, _, _] _ _
    refine V_aload (pc := 14) dX6_copy_14 rfl ?_
    refine V_ifnull (tgt := 24) (pc := 16) dX6_copy_16 (by decide) (fun z => by cases z) (fun _ _ => ?_)
    refine V_aload (pc := 19) dX6_copy_19 rfl ?_
    refine V_ifnonnull (tgt := 27) (pc := 21) dX6_copy_21 (by decide) (fun _ z => by cases z) (fun _ => ?_)
    refine V_bipush (pc := 24) dX6_copy_24 (by decide) ?_
    refine V_ireturn (pc := 26) dX6_copy_26 rfl rfl (fun hR => ?_)
    have h2 := hK σ (by rw [e]; exact h) Fm_.rf
    rw [e] at h2
    exact h2
  by_cases c3 : s = 3
  · subst c3
    by_cases d0 : t = 0
    · subst d0; exact ct_X6_copy_17_11 hi hj hn h hK
    by_cases d1 : t = 1
    · subst d1; exact ct_X6_copy_17_13 hi hj hn h hK
    by_cases d2 : t = 2
    · subst d2; exact ct_X6_copy_17_15 hi hj hn h hK
    by_cases d3 : t = 3
    · subst d3; exact ct_X6_copy_17_17 hi hj hn h hK
    have e : nx_copy a 3 i t j n = (-2, a) := if_pos (Or.inr (by omega))
    refine V_aload_n (pc := 0) dX6_copy_0 rfl rfl ?_
    refine V_iload_n (pc := 1) dX6_copy_1 rfl rfl ?_
    refine V_callV (pc := 2) (as := [_]) (rest := []) dX6_copy_2 ⟨kX6_151, iX6_sheetAt, by decide, by decide⟩ rc_0 rfl rfl (Nat.le_of_ble_eq_true rfl) (Nat.le_of_ble_eq_true rfl) ?_
    refine ct_X6_sheetAt_17 ?_
    show V_ _ _ _ _ _ _ [_] _
    refine V_astore (pc := 5) dX6_copy_5 (by decide) rfl ?_
    show V_ _ _ _ _ _ [_, _, _, _, _, _, _, _] _ _
    refine V_aload_n (pc := 7) dX6_copy_7 rfl rfl ?_
    refine V_iload_n (pc := 8) dX6_copy_8 rfl rfl ?_
    refine V_callV (pc := 9) (as := [_]) (rest := []) dX6_copy_9 ⟨kX6_151, iX6_sheetAt, by decide, by decide⟩ rc_0 rfl rfl (Nat.le_of_ble_eq_true rfl) (Nat.le_of_ble_eq_true rfl) ?_
    refine ct_X6_sheetAt_n ht (by omega) ?_
    show V_ _ _ _ _ _ _ [_] _
    refine V_astore (pc := 12) dX6_copy_12 (by decide) rfl ?_
    show V_ _ _ _ _ _ [_, _, _, _, _, _, _, _] _ _
    refine V_aload (pc := 14) dX6_copy_14 rfl ?_
    refine V_ifnull (tgt := 24) (pc := 16) dX6_copy_16 (by decide) (fun z => by cases z) (fun _ _ => ?_)
    refine V_aload (pc := 19) dX6_copy_19 rfl ?_
    refine V_ifnonnull (tgt := 27) (pc := 21) dX6_copy_21 (by decide) (fun _ z => by cases z) (fun _ => ?_)
    refine V_bipush (pc := 24) dX6_copy_24 (by decide) ?_
    refine V_ireturn (pc := 26) dX6_copy_26 rfl rfl (fun hR => ?_)
    have h2 := hK σ (by rw [e]; exact h) Fm_.rf
    rw [e] at h2
    exact h2
  have e : nx_copy a s i t j n = (-2, a) := if_pos (Or.inl (by omega))
  by_cases d0 : t = 0
  · subst d0
    refine V_aload_n (pc := 0) dX6_copy_0 rfl rfl ?_
    refine V_iload_n (pc := 1) dX6_copy_1 rfl rfl ?_
    refine V_callV (pc := 2) (as := [_]) (rest := []) dX6_copy_2 ⟨kX6_151, iX6_sheetAt, by decide, by decide⟩ rc_0 rfl rfl (Nat.le_of_ble_eq_true rfl) (Nat.le_of_ble_eq_true rfl) ?_
    refine ct_X6_sheetAt_n hs (by omega) ?_
    show V_ _ _ _ _ _ _ [_] _
    refine V_astore (pc := 5) dX6_copy_5 (by decide) rfl ?_
    show V_ _ _ _ _ _ [_, _, _, _, _, _, _, _] _ _
    refine V_aload_n (pc := 7) dX6_copy_7 rfl rfl ?_
    refine V_iload_n (pc := 8) dX6_copy_8 rfl rfl ?_
    refine V_callV (pc := 9) (as := [_]) (rest := []) dX6_copy_9 ⟨kX6_151, iX6_sheetAt, by decide, by decide⟩ rc_0 rfl rfl (Nat.le_of_ble_eq_true rfl) (Nat.le_of_ble_eq_true rfl) ?_
    refine ct_X6_sheetAt_11 ?_
    show V_ _ _ _ _ _ _ [_] _
    refine V_astore (pc := 12) dX6_copy_12 (by decide) rfl ?_
    show V_ _ _ _ _ _ [_, _, _, _, _, _, _, _] _ _
    refine V_aload (pc := 14) dX6_copy_14 rfl ?_
    refine V_ifnull (tgt := 24) (pc := 16) dX6_copy_16 (by decide) (fun _ => ?_) (fun _ z => by cases z)
    refine V_bipush (pc := 24) dX6_copy_24 (by decide) ?_
    refine V_ireturn (pc := 26) dX6_copy_26 rfl rfl (fun hR => ?_)
    have h2 := hK σ (by rw [e]; exact h) Fm_.rf
    rw [e] at h2
    exact h2
  by_cases d1 : t = 1
  · subst d1
    refine V_aload_n (pc := 0) dX6_copy_0 rfl rfl ?_
    refine V_iload_n (pc := 1) dX6_copy_1 rfl rfl ?_
    refine V_callV (pc := 2) (as := [_]) (rest := []) dX6_copy_2 ⟨kX6_151, iX6_sheetAt, by decide, by decide⟩ rc_0 rfl rfl (Nat.le_of_ble_eq_true rfl) (Nat.le_of_ble_eq_true rfl) ?_
    refine ct_X6_sheetAt_n hs (by omega) ?_
    show V_ _ _ _ _ _ _ [_] _
    refine V_astore (pc := 5) dX6_copy_5 (by decide) rfl ?_
    show V_ _ _ _ _ _ [_, _, _, _, _, _, _, _] _ _
    refine V_aload_n (pc := 7) dX6_copy_7 rfl rfl ?_
    refine V_iload_n (pc := 8) dX6_copy_8 rfl rfl ?_
    refine V_callV (pc := 9) (as := [_]) (rest := []) dX6_copy_9 ⟨kX6_151, iX6_sheetAt, by decide, by decide⟩ rc_0 rfl rfl (Nat.le_of_ble_eq_true rfl) (Nat.le_of_ble_eq_true rfl) ?_
    refine ct_X6_sheetAt_13 ?_
    show V_ _ _ _ _ _ _ [_] _
    refine V_astore (pc := 12) dX6_copy_12 (by decide) rfl ?_
    show V_ _ _ _ _ _ [_, _, _, _, _, _, _, _] _ _
    refine V_aload (pc := 14) dX6_copy_14 rfl ?_
    refine V_ifnull (tgt := 24) (pc := 16) dX6_copy_16 (by decide) (fun _ => ?_) (fun _ z => by cases z)
    refine V_bipush (pc := 24) dX6_copy_24 (by decide) ?_
    refine V_ireturn (pc := 26) dX6_copy_26 rfl rfl (fun hR => ?_)
    have h2 := hK σ (by rw [e]; exact h) Fm_.rf
    rw [e] at h2
    exact h2
  by_cases d2 : t = 2
  · subst d2
    refine V_aload_n (pc := 0) dX6_copy_0 rfl rfl ?_
    refine V_iload_n (pc := 1) dX6_copy_1 rfl rfl ?_
    refine V_callV (pc := 2) (as := [_]) (rest := []) dX6_copy_2 ⟨kX6_151, iX6_sheetAt, by decide, by decide⟩ rc_0 rfl rfl (Nat.le_of_ble_eq_true rfl) (Nat.le_of_ble_eq_true rfl) ?_
    refine ct_X6_sheetAt_n hs (by omega) ?_
    show V_ _ _ _ _ _ _ [_] _
    refine V_astore (pc := 5) dX6_copy_5 (by decide) rfl ?_
    show V_ _ _ _ _ _ [_, _, _, _, _, _, _, _] _ _
    refine V_aload_n (pc := 7) dX6_copy_7 rfl rfl ?_
    refine V_iload_n (pc := 8) dX6_copy_8 rfl rfl ?_
    refine V_callV (pc := 9) (as := [_]) (rest := []) dX6_copy_9 ⟨kX6_151, iX6_sheetAt, by decide, by decide⟩ rc_0 rfl rfl (Nat.le_of_ble_eq_true rfl) (Nat.le_of_ble_eq_true rfl) ?_
    refine ct_X6_sheetAt_15 ?_
    show V_ _ _ _ _ _ _ [_] _
    refine V_astore (pc := 12) dX6_copy_12 (by decide) rfl ?_
    show V_ _ _ _ _ _ [_, _, _, _, _, _, _, _] _ _
    refine V_aload (pc := 14) dX6_copy_14 rfl ?_
    refine V_ifnull (tgt := 24) (pc := 16) dX6_copy_16 (by decide) (fun _ => ?_) (fun _ z => by cases z)
    refine V_bipush (pc := 24) dX6_copy_24 (by decide) ?_
    refine V_ireturn (pc := 26) dX6_copy_26 rfl rfl (fun hR => ?_)
    have h2 := hK σ (by rw [e]; exact h) Fm_.rf
    rw [e] at h2
    exact h2
  by_cases d3 : t = 3
  · subst d3
    refine V_aload_n (pc := 0) dX6_copy_0 rfl rfl ?_
    refine V_iload_n (pc := 1) dX6_copy_1 rfl rfl ?_
    refine V_callV (pc := 2) (as := [_]) (rest := []) dX6_copy_2 ⟨kX6_151, iX6_sheetAt, by decide, by decide⟩ rc_0 rfl rfl (Nat.le_of_ble_eq_true rfl) (Nat.le_of_ble_eq_true rfl) ?_
    refine ct_X6_sheetAt_n hs (by omega) ?_
    show V_ _ _ _ _ _ _ [_] _
    refine V_astore (pc := 5) dX6_copy_5 (by decide) rfl ?_
    show V_ _ _ _ _ _ [_, _, _, _, _, _, _, _] _ _
    refine V_aload_n (pc := 7) dX6_copy_7 rfl rfl ?_
    refine V_iload_n (pc := 8) dX6_copy_8 rfl rfl ?_
    refine V_callV (pc := 9) (as := [_]) (rest := []) dX6_copy_9 ⟨kX6_151, iX6_sheetAt, by decide, by decide⟩ rc_0 rfl rfl (Nat.le_of_ble_eq_true rfl) (Nat.le_of_ble_eq_true rfl) ?_
    refine ct_X6_sheetAt_17 ?_
    show V_ _ _ _ _ _ _ [_] _
    refine V_astore (pc := 12) dX6_copy_12 (by decide) rfl ?_
    show V_ _ _ _ _ _ [_, _, _, _, _, _, _, _] _ _
    refine V_aload (pc := 14) dX6_copy_14 rfl ?_
    refine V_ifnull (tgt := 24) (pc := 16) dX6_copy_16 (by decide) (fun _ => ?_) (fun _ z => by cases z)
    refine V_bipush (pc := 24) dX6_copy_24 (by decide) ?_
    refine V_ireturn (pc := 26) dX6_copy_26 rfl rfl (fun hR => ?_)
    have h2 := hK σ (by rw [e]; exact h) Fm_.rf
    rw [e] at h2
    exact h2
  refine V_aload_n (pc := 0) dX6_copy_0 rfl rfl ?_
  refine V_iload_n (pc := 1) dX6_copy_1 rfl rfl ?_
  refine V_callV (pc := 2) (as := [_]) (rest := []) dX6_copy_2 ⟨kX6_151, iX6_sheetAt, by decide, by decide⟩ rc_0 rfl rfl (Nat.le_of_ble_eq_true rfl) (Nat.le_of_ble_eq_true rfl) ?_
  refine ct_X6_sheetAt_n hs (by omega) ?_
  show V_ _ _ _ _ _ _ [_] _
  refine V_astore (pc := 5) dX6_copy_5 (by decide) rfl ?_
  show V_ _ _ _ _ _ [_, _, _, _, _, _, _, _] _ _
  refine V_aload_n (pc := 7) dX6_copy_7 rfl rfl ?_
  refine V_iload_n (pc := 8) dX6_copy_8 rfl rfl ?_
  refine V_callV (pc := 9) (as := [_]) (rest := []) dX6_copy_9 ⟨kX6_151, iX6_sheetAt, by decide, by decide⟩ rc_0 rfl rfl (Nat.le_of_ble_eq_true rfl) (Nat.le_of_ble_eq_true rfl) ?_
  refine ct_X6_sheetAt_n ht (by omega) ?_
  show V_ _ _ _ _ _ _ [_] _
  refine V_astore (pc := 12) dX6_copy_12 (by decide) rfl ?_
  show V_ _ _ _ _ _ [_, _, _, _, _, _, _, _] _ _
  refine V_aload (pc := 14) dX6_copy_14 rfl ?_
  refine V_ifnull (tgt := 24) (pc := 16) dX6_copy_16 (by decide) (fun _ => ?_) (fun _ z => by cases z)
  refine V_bipush (pc := 24) dX6_copy_24 (by decide) ?_
  refine V_ireturn (pc := 26) dX6_copy_26 rfl rfl (fun hR => ?_)
  have h2 := hK σ (by rw [e]; exact h) Fm_.rf
  rw [e] at h2
  exact h2
theorem lp_X6_write_11 {y : Int} (hy : 0 ≤ y ∧ y ≤ 29) (c1 : ¬ a 11 0 = -1) {σ1 : Mm_} (hc1 : CR_ a σ1) (hB1 : RC_ (vv_ a) (lv2_ a y) σ1) (hf1 : Fm_ σ σ1) (hK : ∀ σ2, CR_ (nx_write a y 0).2 σ2 → Fm_ σ σ2 → post (some (vi_ (nx_write a y 0).1)) σ2) : ∀ i : Nat, i ≤ (mw_ a 0).toNat → V_ l D mX6_write (CM_ D mX6_write post) 64 [some (vr_ 0), some (vi_ y), some (vi_ 0), some (vr_ 11), some (vi_ (mw_ a 0)), some (vi_ (i : Int))] [] (wr_ σ1 12 (fun q => cu_ (a 11 0) (lv2_ a y 0 q)) i) := by
  have hA := hc1.1.1
  have hW := vv_WF hA
  have wn := hW.n
  have hS : S1_ a σ1 0 11 := hc1.s1 (s := 0) (by decide)
  have hz := hA.2.2.2.2.2.1 0 (by decide)
  have hRa := hA.2.2.2.2.2.2.2
  have hm : 0 ≤ mw_ a 0 ∧ mw_ a 0 ≤ 8 ∧ mw_ a 0 ≤ a 12 0 ∧ mw_ a 0 ≤ vv_ a 3 0 := by unfold mw_; split <;> omega
  have hlw := li_RW (u := uu_ a) hW (y.toNat + 1) (by omega)
  refine up_ _ (fun i hi ih => ?_)
  refine V_iload (pc := 64) dX6_write_64 rfl ?_
  refine V_iload (pc := 66) dX6_write_66 rfl ?_
  refine V_icmp_ge (tgt := 93) (pc := 68) dX6_write_68 (by decide) (by constructor <;> omega) (by constructor <;> omega) (fun h68 => ?_) (fun h68 => ?_)
  · skip
    refine V_iload (pc := 93) dX6_write_93 rfl ?_
    refine V_ireturn (pc := 95) dX6_write_95 rfl rfl (fun hR => ?_)
    have e : nx_write a y 0 = (mw_ a 0, wr_ a 13 (fun q => cu_ (a 11 0) (lv2_ a y 0 q)) (mw_ a 0).toNat) := by unfold nx_write; rw [if_neg (by omega), show ((0 : Int)).toNat = 0 from rfl, if_neg c1]
    have hcr : CR_ (wr_ a 13 (fun q => cu_ (a 11 0) (lv2_ a y 0 q)) (mw_ a 0).toNat) (wr_ σ1 12 (fun q => cu_ (a 11 0) (lv2_ a y 0 q)) i) := by
      refine hc1.sht (s := 0) (k := 11) rfl (by decide) ⟨fun q hq => by rw [wr_rw (by decide), wr_rw (by decide)]; exact hA.2.2.2.2.2.1 q hq, fun x z => ?_⟩ (fun q q1 q2 => wr_rw q2) (fun q q1 q2 q3 => wr_rw q3) (fun q hq => by rw [wr_rw (by decide), wr_rw (by decide)]; exact ⟨rfl, rfl⟩) ⟨fun z => ?_, fun z => ⟨?_, ?_, ?_, fun q hq => ?_⟩⟩
      · unfold wr_
        split
        · rename_i c
          have := hlw.1 z (by omega)
          exact cu_rg ⟨by show _ ≤ li_ _ _ _ _ _; omega, by show li_ _ _ _ _ _ ≤ _; omega⟩
        · exact hRa x z
      · rw [wr_rw (by decide)] at z; exact absurd z c1
      · rw [wr_rw (by decide)]; exact (hS.2 c1).1
      · rw [wr_rw (by decide), wr_rw (by decide)]; exact (hS.2 c1).2.1
      · rw [wr_rw (by decide), wr_rw (by decide)]; exact (hS.2 c1).2.2.1
      · rw [wr_rw (by decide)] at hq
        show wr_ σ1 12 _ _ 12 q = wr_ a 13 _ _ 13 q
        rw [show (mw_ a 0).toNat = i by omega]
        unfold wr_
        by_cases c : q < i
        · rw [if_pos ⟨rfl, c⟩, if_pos ⟨rfl, c⟩]
        · rw [if_neg (fun z => c z.2), if_neg (fun z => c z.2)]
          exact (hS.2 c1).2.2.2 q hq
    have h2 := hK _ (by rw [e]; exact hcr) (hf1.wr (by decide))
    rw [e] at h2
    exact h2
  · skip
    refine V_aload_n (pc := 71) dX6_write_71 rfl rfl ?_
    refine V_iload (pc := 72) dX6_write_72 rfl ?_
    refine V_aload_n (pc := 74) dX6_write_74 rfl rfl ?_
    refine V_getr (pc := 75) dX6_write_75 fX6_57 rfl gg_0 rfl ?_
    refine V_getr (pc := 78) dX6_write_78 fX6_183 rfl gg_29 rfl ?_
    refine V_iload (pc := 81) dX6_write_81 rfl ?_
    refine V_ialdN (pc := 83) dX6_write_83 gg_30 (by omega) (by decide) (fun r83 => ?_)
    rw [wr_nk (by decide), hB1.1 i (by omega)] at r83 ⊢
    refine V_callV (pc := 84) (as := [_, _]) (rest := []) dX6_write_84 ⟨kX6_260, iX4_put, by decide, by decide⟩ rc_11 rfl rfl (Nat.le_of_ble_eq_true rfl) (Nat.le_of_ble_eq_true rfl) ?_
    refine ct_X4_put_11 (f := a 11 0) (z := a 12 0) (by rw [wr_nk (by decide)]; exact (hS.2 c1).2.1) (by omega) (by rw [wr_nk (by decide)]; exact (hS.2 c1).2.2.1) (by omega) (by omega) r83 ?_
    show V_ _ _ _ _ _ _ [] _
    refine V_iinc (pc := 87) dX6_write_87 rfl (by decide) rfl ?_
    show V_ _ _ _ _ _ [_, _, _, _, _, _] _ _
    refine V_goto (tgt := 64) (pc := 90) dX6_write_90 (by decide) ?_
    exact V_cg (ih (by omega)) (by simp) rfl (by rw [wr_s rfl])
theorem ct_X6_write_11 {y : Int} (hy : Rg_ y) (h : CR_ a σ) (hK : ∀ σ1, CR_ (nx_write a y 0).2 σ1 → Fm_ σ σ1 → post (some (vi_ (nx_write a y 0).1)) σ1) : V_ l D mX6_write (CM_ D mX6_write post) 0 [some (vr_ 0), some (vi_ y), some (vi_ 0), none, none, none] [] σ := by
  have hA := h.1.1
  have hW := vv_WF hA
  have hC := h.2.1
  have hD := h.2.2
  have ws := hW.s
  have wn := hW.n
  have wl := hW.l
  have hS : S1_ a σ 0 11 := h.s1 (s := 0) (by decide)
  have hz := hA.2.2.2.2.2.1 0 (by decide)
  have hRa := hA.2.2.2.2.2.2.2
  have cs : σ 11 1 = 0 ↔ ¬ a 11 0 = -1 := ⟨fun z c => by rw [hS.1 c] at z; exact absurd z (by decide), fun c => (hS.2 c).1⟩
  refine V_aload_n (pc := 0) dX6_write_0 rfl rfl ?_
  refine V_iload_n (pc := 1) dX6_write_1 rfl rfl ?_
  refine V_callV (pc := 2) (as := [_]) (rest := []) dX6_write_2 ⟨kX6_151, iX6_sheetAt, by decide, by decide⟩ rc_0 rfl rfl (Nat.le_of_ble_eq_true rfl) (Nat.le_of_ble_eq_true rfl) ?_
  refine ct_X6_sheetAt_11 ?_
  show V_ _ _ _ _ _ _ [_] _
  refine V_astore_n (pc := 5) dX6_write_5 rfl (by decide) rfl ?_
  show V_ _ _ _ _ _ [_, _, _, _, _, _] _ _
  refine V_iload_n (pc := 6) dX6_write_6 rfl rfl ?_
  refine V_callS (pc := 7) (as := [_]) (rest := []) dX6_write_7 ⟨kX6_176, sX6_isYear, by decide, by decide⟩ rfl rfl (Nat.le_of_ble_eq_true rfl) (Nat.le_of_ble_eq_true rfl) ?_
  refine ct_X6_isYear (by first | assumption | decide | omega | exact ba_rg hR | exact b2_rg) ?_
  show V_ _ _ _ _ _ _ [_] _
  refine V_if_eq (tgt := 17) (pc := 10) dX6_write_10 (by decide) (by first | assumption | decide | omega | exact ba_rg hR | exact b2_rg) (fun h10 => ?_) (fun h10 => ?_)
  · skip
    rw [b2_0] at h10
    have e : nx_write a y 0 = (-2, a) := if_pos (Or.inl h10)
    refine V_bipush (pc := 17) dX6_write_17 (by decide) ?_
    refine V_ireturn (pc := 19) dX6_write_19 rfl rfl (fun hR => ?_)
    have h2 := hK σ (by rw [e]; exact h) Fm_.rf
    rw [e] at h2
    exact h2
  · skip
    rw [b2_n0] at h10
    refine V_aload_n (pc := 13) dX6_write_13 rfl rfl ?_
    refine V_ifnonnull (tgt := 20) (pc := 14) dX6_write_14 (by decide) (fun _ _ => ?_) (fun z => by cases z)
    refine V_aload_n (pc := 20) dX6_write_20 rfl rfl ?_
    refine V_geti (pc := 21) dX6_write_21 fX6_155 rfl gg_11 rfl (fun r21 => ?_)
    refine V_if_eq (tgt := 33) (pc := 24) dX6_write_24 (by decide) (by constructor <;> omega) (fun h24 => ?_) (fun h24 => ?_)
    · skip
      have c1 := cs.mp h24
      refine V_aload_n (pc := 33) dX6_write_33 rfl rfl ?_
      refine V_getr (pc := 34) dX6_write_34 fX6_57 rfl gg_0 rfl ?_
      refine V_aload_n (pc := 37) dX6_write_37 rfl rfl ?_
      refine V_getr (pc := 38) dX6_write_38 fX6_35 rfl gg_0 rfl ?_
      refine V_iload_n (pc := 41) dX6_write_41 rfl rfl ?_
      refine V_callV (pc := 42) (as := [_, _]) (rest := []) dX6_write_42 ⟨kX6_179, iX3_followTold, by decide, by decide⟩ rc_29 rfl rfl (Nat.le_of_ble_eq_true rfl) (Nat.le_of_ble_eq_true rfl) ?_
      obtain ⟨Y, hY⟩ := i_nat (show 0 ≤ y by omega)
      subst hY
      refine ct_X3_followTold hW hA.2.2.2.1 (Y := Y) (by omega) hC hD h.1.2.2.2.1 (fun σ1 hB1 hB2 => ?_)
      have hc1 := h.f6 hB2.f6
      have hf1 := hB2.f6.fm
      have hB1 : RC_ (vv_ a) (lv2_ a (Y : Int)) σ1 := hB1
      show V_ _ _ _ _ _ _ [] _
      refine V_aload_n (pc := 45) dX6_write_45 rfl rfl ?_
      refine V_geti (pc := 46) dX6_write_46 fX6_163 rfl gg_11 rfl (fun r46 => ?_)
      rw [show σ1 11 3 = a 12 0 from ((hc1.s1 (s := 0) (by decide)).2 c1).2.2.1] at r46 ⊢
      refine V_aload_n (pc := 49) dX6_write_49 rfl rfl ?_
      refine V_getr (pc := 50) dX6_write_50 fX6_53 rfl gg_0 rfl ?_
      refine V_geti (pc := 53) dX6_write_53 fX6_206 rfl gg_19 rfl (fun r53 => ?_)
      rw [hc1.2.1.2.1] at r53 ⊢
      refine V_mmin (pc := 56) dX6_write_56 kX6_276 ⟨by decide, Nat.le_of_ble_eq_true rfl⟩ (by constructor <;> omega) (by constructor <;> omega) ?_
      rw [show (if vv_ a 3 0 < a 12 0 then vv_ a 3 0 else a 12 0) = mw_ a 0 from rfl]
      refine V_istore (pc := 59) dX6_write_59 (by decide) rfl ?_
      show V_ _ _ _ _ _ [_, _, _, _, _, _] _ _
      refine V_iconst (pc := 61) dX6_write_61 ?_
      refine V_istore (pc := 62) dX6_write_62 (by decide) rfl ?_
      show V_ _ _ _ _ _ [_, _, _, _, _, _] _ _
      exact V_cg (lp_X6_write_11 h10 c1 hc1 hB1 hf1 hK 0 (Nat.zero_le _)) (by simp) rfl (by rw [wr_0])
    · skip
      have e : nx_write a y 0 = fd2_ a 1 := by unfold nx_write; rw [if_neg (by omega), show ((0 : Int)).toNat = 0 from rfl, if_pos (Decidable.byContradiction (fun z => h24 (cs.mpr z)))]
      refine V_aload_n (pc := 27) dX6_write_27 rfl rfl ?_
      refine V_iconst (pc := 28) dX6_write_28 ?_
      refine V_callV (pc := 29) (as := [_]) (rest := []) dX6_write_29 ⟨kX6_159, iX6_found, by decide, by decide⟩ rc_0 rfl rfl (Nat.le_of_ble_eq_true rfl) (Nat.le_of_ble_eq_true rfl) ?_
      refine ct_X6_found (by decide) ?_
      show V_ _ _ _ _ _ _ [_] _
      refine V_ireturn (pc := 32) dX6_write_32 rfl rfl (fun hR => ?_)
      have h2 := hK _ (by rw [e]; exact h.found (by omega)) (Fm_.rf.ms (by decide))
      rw [e] at h2
      exact h2
theorem lp_X6_write_13 {y : Int} (hy : 0 ≤ y ∧ y ≤ 29) (c1 : ¬ a 11 1 = -1) {σ1 : Mm_} (hc1 : CR_ a σ1) (hB1 : RC_ (vv_ a) (lv2_ a y) σ1) (hf1 : Fm_ σ σ1) (hK : ∀ σ2, CR_ (nx_write a y 1).2 σ2 → Fm_ σ σ2 → post (some (vi_ (nx_write a y 1).1)) σ2) : ∀ i : Nat, i ≤ (mw_ a 1).toNat → V_ l D mX6_write (CM_ D mX6_write post) 64 [some (vr_ 0), some (vi_ y), some (vi_ 1), some (vr_ 13), some (vi_ (mw_ a 1)), some (vi_ (i : Int))] [] (wr_ σ1 14 (fun q => cu_ (a 11 1) (lv2_ a y 0 q)) i) := by
  have hA := hc1.1.1
  have hW := vv_WF hA
  have wn := hW.n
  have hS : S1_ a σ1 1 13 := hc1.s1 (s := 1) (by decide)
  have hz := hA.2.2.2.2.2.1 1 (by decide)
  have hRa := hA.2.2.2.2.2.2.2
  have hm : 0 ≤ mw_ a 1 ∧ mw_ a 1 ≤ 8 ∧ mw_ a 1 ≤ a 12 1 ∧ mw_ a 1 ≤ vv_ a 3 0 := by unfold mw_; split <;> omega
  have hlw := li_RW (u := uu_ a) hW (y.toNat + 1) (by omega)
  refine up_ _ (fun i hi ih => ?_)
  refine V_iload (pc := 64) dX6_write_64 rfl ?_
  refine V_iload (pc := 66) dX6_write_66 rfl ?_
  refine V_icmp_ge (tgt := 93) (pc := 68) dX6_write_68 (by decide) (by constructor <;> omega) (by constructor <;> omega) (fun h68 => ?_) (fun h68 => ?_)
  · skip
    refine V_iload (pc := 93) dX6_write_93 rfl ?_
    refine V_ireturn (pc := 95) dX6_write_95 rfl rfl (fun hR => ?_)
    have e : nx_write a y 1 = (mw_ a 1, wr_ a 14 (fun q => cu_ (a 11 1) (lv2_ a y 0 q)) (mw_ a 1).toNat) := by unfold nx_write; rw [if_neg (by omega), show ((1 : Int)).toNat = 1 from rfl, if_neg c1]
    have hcr : CR_ (wr_ a 14 (fun q => cu_ (a 11 1) (lv2_ a y 0 q)) (mw_ a 1).toNat) (wr_ σ1 14 (fun q => cu_ (a 11 1) (lv2_ a y 0 q)) i) := by
      refine hc1.sht (s := 1) (k := 13) rfl (by decide) ⟨fun q hq => by rw [wr_rw (by decide), wr_rw (by decide)]; exact hA.2.2.2.2.2.1 q hq, fun x z => ?_⟩ (fun q q1 q2 => wr_rw q2) (fun q q1 q2 q3 => wr_rw q3) (fun q hq => by rw [wr_rw (by decide), wr_rw (by decide)]; exact ⟨rfl, rfl⟩) ⟨fun z => ?_, fun z => ⟨?_, ?_, ?_, fun q hq => ?_⟩⟩
      · unfold wr_
        split
        · rename_i c
          have := hlw.1 z (by omega)
          exact cu_rg ⟨by show _ ≤ li_ _ _ _ _ _; omega, by show li_ _ _ _ _ _ ≤ _; omega⟩
        · exact hRa x z
      · rw [wr_rw (by decide)] at z; exact absurd z c1
      · rw [wr_rw (by decide)]; exact (hS.2 c1).1
      · rw [wr_rw (by decide), wr_rw (by decide)]; exact (hS.2 c1).2.1
      · rw [wr_rw (by decide), wr_rw (by decide)]; exact (hS.2 c1).2.2.1
      · rw [wr_rw (by decide)] at hq
        show wr_ σ1 14 _ _ 14 q = wr_ a 14 _ _ 14 q
        rw [show (mw_ a 1).toNat = i by omega]
        unfold wr_
        by_cases c : q < i
        · rw [if_pos ⟨rfl, c⟩, if_pos ⟨rfl, c⟩]
        · rw [if_neg (fun z => c z.2), if_neg (fun z => c z.2)]
          exact (hS.2 c1).2.2.2 q hq
    have h2 := hK _ (by rw [e]; exact hcr) (hf1.wr (by decide))
    rw [e] at h2
    exact h2
  · skip
    refine V_aload_n (pc := 71) dX6_write_71 rfl rfl ?_
    refine V_iload (pc := 72) dX6_write_72 rfl ?_
    refine V_aload_n (pc := 74) dX6_write_74 rfl rfl ?_
    refine V_getr (pc := 75) dX6_write_75 fX6_57 rfl gg_0 rfl ?_
    refine V_getr (pc := 78) dX6_write_78 fX6_183 rfl gg_29 rfl ?_
    refine V_iload (pc := 81) dX6_write_81 rfl ?_
    refine V_ialdN (pc := 83) dX6_write_83 gg_30 (by omega) (by decide) (fun r83 => ?_)
    rw [wr_nk (by decide), hB1.1 i (by omega)] at r83 ⊢
    refine V_callV (pc := 84) (as := [_, _]) (rest := []) dX6_write_84 ⟨kX6_260, iX4_put, by decide, by decide⟩ rc_13 rfl rfl (Nat.le_of_ble_eq_true rfl) (Nat.le_of_ble_eq_true rfl) ?_
    refine ct_X4_put_13 (f := a 11 1) (z := a 12 1) (by rw [wr_nk (by decide)]; exact (hS.2 c1).2.1) (by omega) (by rw [wr_nk (by decide)]; exact (hS.2 c1).2.2.1) (by omega) (by omega) r83 ?_
    show V_ _ _ _ _ _ _ [] _
    refine V_iinc (pc := 87) dX6_write_87 rfl (by decide) rfl ?_
    show V_ _ _ _ _ _ [_, _, _, _, _, _] _ _
    refine V_goto (tgt := 64) (pc := 90) dX6_write_90 (by decide) ?_
    exact V_cg (ih (by omega)) (by simp) rfl (by rw [wr_s rfl])
theorem ct_X6_write_13 {y : Int} (hy : Rg_ y) (h : CR_ a σ) (hK : ∀ σ1, CR_ (nx_write a y 1).2 σ1 → Fm_ σ σ1 → post (some (vi_ (nx_write a y 1).1)) σ1) : V_ l D mX6_write (CM_ D mX6_write post) 0 [some (vr_ 0), some (vi_ y), some (vi_ 1), none, none, none] [] σ := by
  have hA := h.1.1
  have hW := vv_WF hA
  have hC := h.2.1
  have hD := h.2.2
  have ws := hW.s
  have wn := hW.n
  have wl := hW.l
  have hS : S1_ a σ 1 13 := h.s1 (s := 1) (by decide)
  have hz := hA.2.2.2.2.2.1 1 (by decide)
  have hRa := hA.2.2.2.2.2.2.2
  have cs : σ 13 1 = 0 ↔ ¬ a 11 1 = -1 := ⟨fun z c => by rw [hS.1 c] at z; exact absurd z (by decide), fun c => (hS.2 c).1⟩
  refine V_aload_n (pc := 0) dX6_write_0 rfl rfl ?_
  refine V_iload_n (pc := 1) dX6_write_1 rfl rfl ?_
  refine V_callV (pc := 2) (as := [_]) (rest := []) dX6_write_2 ⟨kX6_151, iX6_sheetAt, by decide, by decide⟩ rc_0 rfl rfl (Nat.le_of_ble_eq_true rfl) (Nat.le_of_ble_eq_true rfl) ?_
  refine ct_X6_sheetAt_13 ?_
  show V_ _ _ _ _ _ _ [_] _
  refine V_astore_n (pc := 5) dX6_write_5 rfl (by decide) rfl ?_
  show V_ _ _ _ _ _ [_, _, _, _, _, _] _ _
  refine V_iload_n (pc := 6) dX6_write_6 rfl rfl ?_
  refine V_callS (pc := 7) (as := [_]) (rest := []) dX6_write_7 ⟨kX6_176, sX6_isYear, by decide, by decide⟩ rfl rfl (Nat.le_of_ble_eq_true rfl) (Nat.le_of_ble_eq_true rfl) ?_
  refine ct_X6_isYear (by first | assumption | decide | omega | exact ba_rg hR | exact b2_rg) ?_
  show V_ _ _ _ _ _ _ [_] _
  refine V_if_eq (tgt := 17) (pc := 10) dX6_write_10 (by decide) (by first | assumption | decide | omega | exact ba_rg hR | exact b2_rg) (fun h10 => ?_) (fun h10 => ?_)
  · skip
    rw [b2_0] at h10
    have e : nx_write a y 1 = (-2, a) := if_pos (Or.inl h10)
    refine V_bipush (pc := 17) dX6_write_17 (by decide) ?_
    refine V_ireturn (pc := 19) dX6_write_19 rfl rfl (fun hR => ?_)
    have h2 := hK σ (by rw [e]; exact h) Fm_.rf
    rw [e] at h2
    exact h2
  · skip
    rw [b2_n0] at h10
    refine V_aload_n (pc := 13) dX6_write_13 rfl rfl ?_
    refine V_ifnonnull (tgt := 20) (pc := 14) dX6_write_14 (by decide) (fun _ _ => ?_) (fun z => by cases z)
    refine V_aload_n (pc := 20) dX6_write_20 rfl rfl ?_
    refine V_geti (pc := 21) dX6_write_21 fX6_155 rfl gg_13 rfl (fun r21 => ?_)
    refine V_if_eq (tgt := 33) (pc := 24) dX6_write_24 (by decide) (by constructor <;> omega) (fun h24 => ?_) (fun h24 => ?_)
    · skip
      have c1 := cs.mp h24
      refine V_aload_n (pc := 33) dX6_write_33 rfl rfl ?_
      refine V_getr (pc := 34) dX6_write_34 fX6_57 rfl gg_0 rfl ?_
      refine V_aload_n (pc := 37) dX6_write_37 rfl rfl ?_
      refine V_getr (pc := 38) dX6_write_38 fX6_35 rfl gg_0 rfl ?_
      refine V_iload_n (pc := 41) dX6_write_41 rfl rfl ?_
      refine V_callV (pc := 42) (as := [_, _]) (rest := []) dX6_write_42 ⟨kX6_179, iX3_followTold, by decide, by decide⟩ rc_29 rfl rfl (Nat.le_of_ble_eq_true rfl) (Nat.le_of_ble_eq_true rfl) ?_
      obtain ⟨Y, hY⟩ := i_nat (show 0 ≤ y by omega)
      subst hY
      refine ct_X3_followTold hW hA.2.2.2.1 (Y := Y) (by omega) hC hD h.1.2.2.2.1 (fun σ1 hB1 hB2 => ?_)
      have hc1 := h.f6 hB2.f6
      have hf1 := hB2.f6.fm
      have hB1 : RC_ (vv_ a) (lv2_ a (Y : Int)) σ1 := hB1
      show V_ _ _ _ _ _ _ [] _
      refine V_aload_n (pc := 45) dX6_write_45 rfl rfl ?_
      refine V_geti (pc := 46) dX6_write_46 fX6_163 rfl gg_13 rfl (fun r46 => ?_)
      rw [show σ1 13 3 = a 12 1 from ((hc1.s1 (s := 1) (by decide)).2 c1).2.2.1] at r46 ⊢
      refine V_aload_n (pc := 49) dX6_write_49 rfl rfl ?_
      refine V_getr (pc := 50) dX6_write_50 fX6_53 rfl gg_0 rfl ?_
      refine V_geti (pc := 53) dX6_write_53 fX6_206 rfl gg_19 rfl (fun r53 => ?_)
      rw [hc1.2.1.2.1] at r53 ⊢
      refine V_mmin (pc := 56) dX6_write_56 kX6_276 ⟨by decide, Nat.le_of_ble_eq_true rfl⟩ (by constructor <;> omega) (by constructor <;> omega) ?_
      rw [show (if vv_ a 3 0 < a 12 1 then vv_ a 3 0 else a 12 1) = mw_ a 1 from rfl]
      refine V_istore (pc := 59) dX6_write_59 (by decide) rfl ?_
      show V_ _ _ _ _ _ [_, _, _, _, _, _] _ _
      refine V_iconst (pc := 61) dX6_write_61 ?_
      refine V_istore (pc := 62) dX6_write_62 (by decide) rfl ?_
      show V_ _ _ _ _ _ [_, _, _, _, _, _] _ _
      exact V_cg (lp_X6_write_13 h10 c1 hc1 hB1 hf1 hK 0 (Nat.zero_le _)) (by simp) rfl (by rw [wr_0])
    · skip
      have e : nx_write a y 1 = fd2_ a 1 := by unfold nx_write; rw [if_neg (by omega), show ((1 : Int)).toNat = 1 from rfl, if_pos (Decidable.byContradiction (fun z => h24 (cs.mpr z)))]
      refine V_aload_n (pc := 27) dX6_write_27 rfl rfl ?_
      refine V_iconst (pc := 28) dX6_write_28 ?_
      refine V_callV (pc := 29) (as := [_]) (rest := []) dX6_write_29 ⟨kX6_159, iX6_found, by decide, by decide⟩ rc_0 rfl rfl (Nat.le_of_ble_eq_true rfl) (Nat.le_of_ble_eq_true rfl) ?_
      refine ct_X6_found (by decide) ?_
      show V_ _ _ _ _ _ _ [_] _
      refine V_ireturn (pc := 32) dX6_write_32 rfl rfl (fun hR => ?_)
      have h2 := hK _ (by rw [e]; exact h.found (by omega)) (Fm_.rf.ms (by decide))
      rw [e] at h2
      exact h2
theorem lp_X6_write_15 {y : Int} (hy : 0 ≤ y ∧ y ≤ 29) (c1 : ¬ a 11 2 = -1) {σ1 : Mm_} (hc1 : CR_ a σ1) (hB1 : RC_ (vv_ a) (lv2_ a y) σ1) (hf1 : Fm_ σ σ1) (hK : ∀ σ2, CR_ (nx_write a y 2).2 σ2 → Fm_ σ σ2 → post (some (vi_ (nx_write a y 2).1)) σ2) : ∀ i : Nat, i ≤ (mw_ a 2).toNat → V_ l D mX6_write (CM_ D mX6_write post) 64 [some (vr_ 0), some (vi_ y), some (vi_ 2), some (vr_ 15), some (vi_ (mw_ a 2)), some (vi_ (i : Int))] [] (wr_ σ1 16 (fun q => cu_ (a 11 2) (lv2_ a y 0 q)) i) := by
  have hA := hc1.1.1
  have hW := vv_WF hA
  have wn := hW.n
  have hS : S1_ a σ1 2 15 := hc1.s1 (s := 2) (by decide)
  have hz := hA.2.2.2.2.2.1 2 (by decide)
  have hRa := hA.2.2.2.2.2.2.2
  have hm : 0 ≤ mw_ a 2 ∧ mw_ a 2 ≤ 8 ∧ mw_ a 2 ≤ a 12 2 ∧ mw_ a 2 ≤ vv_ a 3 0 := by unfold mw_; split <;> omega
  have hlw := li_RW (u := uu_ a) hW (y.toNat + 1) (by omega)
  refine up_ _ (fun i hi ih => ?_)
  refine V_iload (pc := 64) dX6_write_64 rfl ?_
  refine V_iload (pc := 66) dX6_write_66 rfl ?_
  refine V_icmp_ge (tgt := 93) (pc := 68) dX6_write_68 (by decide) (by constructor <;> omega) (by constructor <;> omega) (fun h68 => ?_) (fun h68 => ?_)
  · skip
    refine V_iload (pc := 93) dX6_write_93 rfl ?_
    refine V_ireturn (pc := 95) dX6_write_95 rfl rfl (fun hR => ?_)
    have e : nx_write a y 2 = (mw_ a 2, wr_ a 15 (fun q => cu_ (a 11 2) (lv2_ a y 0 q)) (mw_ a 2).toNat) := by unfold nx_write; rw [if_neg (by omega), show ((2 : Int)).toNat = 2 from rfl, if_neg c1]
    have hcr : CR_ (wr_ a 15 (fun q => cu_ (a 11 2) (lv2_ a y 0 q)) (mw_ a 2).toNat) (wr_ σ1 16 (fun q => cu_ (a 11 2) (lv2_ a y 0 q)) i) := by
      refine hc1.sht (s := 2) (k := 15) rfl (by decide) ⟨fun q hq => by rw [wr_rw (by decide), wr_rw (by decide)]; exact hA.2.2.2.2.2.1 q hq, fun x z => ?_⟩ (fun q q1 q2 => wr_rw q2) (fun q q1 q2 q3 => wr_rw q3) (fun q hq => by rw [wr_rw (by decide), wr_rw (by decide)]; exact ⟨rfl, rfl⟩) ⟨fun z => ?_, fun z => ⟨?_, ?_, ?_, fun q hq => ?_⟩⟩
      · unfold wr_
        split
        · rename_i c
          have := hlw.1 z (by omega)
          exact cu_rg ⟨by show _ ≤ li_ _ _ _ _ _; omega, by show li_ _ _ _ _ _ ≤ _; omega⟩
        · exact hRa x z
      · rw [wr_rw (by decide)] at z; exact absurd z c1
      · rw [wr_rw (by decide)]; exact (hS.2 c1).1
      · rw [wr_rw (by decide), wr_rw (by decide)]; exact (hS.2 c1).2.1
      · rw [wr_rw (by decide), wr_rw (by decide)]; exact (hS.2 c1).2.2.1
      · rw [wr_rw (by decide)] at hq
        show wr_ σ1 16 _ _ 16 q = wr_ a 15 _ _ 15 q
        rw [show (mw_ a 2).toNat = i by omega]
        unfold wr_
        by_cases c : q < i
        · rw [if_pos ⟨rfl, c⟩, if_pos ⟨rfl, c⟩]
        · rw [if_neg (fun z => c z.2), if_neg (fun z => c z.2)]
          exact (hS.2 c1).2.2.2 q hq
    have h2 := hK _ (by rw [e]; exact hcr) (hf1.wr (by decide))
    rw [e] at h2
    exact h2
  · skip
    refine V_aload_n (pc := 71) dX6_write_71 rfl rfl ?_
    refine V_iload (pc := 72) dX6_write_72 rfl ?_
    refine V_aload_n (pc := 74) dX6_write_74 rfl rfl ?_
    refine V_getr (pc := 75) dX6_write_75 fX6_57 rfl gg_0 rfl ?_
    refine V_getr (pc := 78) dX6_write_78 fX6_183 rfl gg_29 rfl ?_
    refine V_iload (pc := 81) dX6_write_81 rfl ?_
    refine V_ialdN (pc := 83) dX6_write_83 gg_30 (by omega) (by decide) (fun r83 => ?_)
    rw [wr_nk (by decide), hB1.1 i (by omega)] at r83 ⊢
    refine V_callV (pc := 84) (as := [_, _]) (rest := []) dX6_write_84 ⟨kX6_260, iX4_put, by decide, by decide⟩ rc_15 rfl rfl (Nat.le_of_ble_eq_true rfl) (Nat.le_of_ble_eq_true rfl) ?_
    refine ct_X4_put_15 (f := a 11 2) (z := a 12 2) (by rw [wr_nk (by decide)]; exact (hS.2 c1).2.1) (by omega) (by rw [wr_nk (by decide)]; exact (hS.2 c1).2.2.1) (by omega) (by omega) r83 ?_
    show V_ _ _ _ _ _ _ [] _
    refine V_iinc (pc := 87) dX6_write_87 rfl (by decide) rfl ?_
    show V_ _ _ _ _ _ [_, _, _, _, _, _] _ _
    refine V_goto (tgt := 64) (pc := 90) dX6_write_90 (by decide) ?_
    exact V_cg (ih (by omega)) (by simp) rfl (by rw [wr_s rfl])
theorem ct_X6_write_15 {y : Int} (hy : Rg_ y) (h : CR_ a σ) (hK : ∀ σ1, CR_ (nx_write a y 2).2 σ1 → Fm_ σ σ1 → post (some (vi_ (nx_write a y 2).1)) σ1) : V_ l D mX6_write (CM_ D mX6_write post) 0 [some (vr_ 0), some (vi_ y), some (vi_ 2), none, none, none] [] σ := by
  have hA := h.1.1
  have hW := vv_WF hA
  have hC := h.2.1
  have hD := h.2.2
  have ws := hW.s
  have wn := hW.n
  have wl := hW.l
  have hS : S1_ a σ 2 15 := h.s1 (s := 2) (by decide)
  have hz := hA.2.2.2.2.2.1 2 (by decide)
  have hRa := hA.2.2.2.2.2.2.2
  have cs : σ 15 1 = 0 ↔ ¬ a 11 2 = -1 := ⟨fun z c => by rw [hS.1 c] at z; exact absurd z (by decide), fun c => (hS.2 c).1⟩
  refine V_aload_n (pc := 0) dX6_write_0 rfl rfl ?_
  refine V_iload_n (pc := 1) dX6_write_1 rfl rfl ?_
  refine V_callV (pc := 2) (as := [_]) (rest := []) dX6_write_2 ⟨kX6_151, iX6_sheetAt, by decide, by decide⟩ rc_0 rfl rfl (Nat.le_of_ble_eq_true rfl) (Nat.le_of_ble_eq_true rfl) ?_
  refine ct_X6_sheetAt_15 ?_
  show V_ _ _ _ _ _ _ [_] _
  refine V_astore_n (pc := 5) dX6_write_5 rfl (by decide) rfl ?_
  show V_ _ _ _ _ _ [_, _, _, _, _, _] _ _
  refine V_iload_n (pc := 6) dX6_write_6 rfl rfl ?_
  refine V_callS (pc := 7) (as := [_]) (rest := []) dX6_write_7 ⟨kX6_176, sX6_isYear, by decide, by decide⟩ rfl rfl (Nat.le_of_ble_eq_true rfl) (Nat.le_of_ble_eq_true rfl) ?_
  refine ct_X6_isYear (by first | assumption | decide | omega | exact ba_rg hR | exact b2_rg) ?_
  show V_ _ _ _ _ _ _ [_] _
  refine V_if_eq (tgt := 17) (pc := 10) dX6_write_10 (by decide) (by first | assumption | decide | omega | exact ba_rg hR | exact b2_rg) (fun h10 => ?_) (fun h10 => ?_)
  · skip
    rw [b2_0] at h10
    have e : nx_write a y 2 = (-2, a) := if_pos (Or.inl h10)
    refine V_bipush (pc := 17) dX6_write_17 (by decide) ?_
    refine V_ireturn (pc := 19) dX6_write_19 rfl rfl (fun hR => ?_)
    have h2 := hK σ (by rw [e]; exact h) Fm_.rf
    rw [e] at h2
    exact h2
  · skip
    rw [b2_n0] at h10
    refine V_aload_n (pc := 13) dX6_write_13 rfl rfl ?_
    refine V_ifnonnull (tgt := 20) (pc := 14) dX6_write_14 (by decide) (fun _ _ => ?_) (fun z => by cases z)
    refine V_aload_n (pc := 20) dX6_write_20 rfl rfl ?_
    refine V_geti (pc := 21) dX6_write_21 fX6_155 rfl gg_15 rfl (fun r21 => ?_)
    refine V_if_eq (tgt := 33) (pc := 24) dX6_write_24 (by decide) (by constructor <;> omega) (fun h24 => ?_) (fun h24 => ?_)
    · skip
      have c1 := cs.mp h24
      refine V_aload_n (pc := 33) dX6_write_33 rfl rfl ?_
      refine V_getr (pc := 34) dX6_write_34 fX6_57 rfl gg_0 rfl ?_
      refine V_aload_n (pc := 37) dX6_write_37 rfl rfl ?_
      refine V_getr (pc := 38) dX6_write_38 fX6_35 rfl gg_0 rfl ?_
      refine V_iload_n (pc := 41) dX6_write_41 rfl rfl ?_
      refine V_callV (pc := 42) (as := [_, _]) (rest := []) dX6_write_42 ⟨kX6_179, iX3_followTold, by decide, by decide⟩ rc_29 rfl rfl (Nat.le_of_ble_eq_true rfl) (Nat.le_of_ble_eq_true rfl) ?_
      obtain ⟨Y, hY⟩ := i_nat (show 0 ≤ y by omega)
      subst hY
      refine ct_X3_followTold hW hA.2.2.2.1 (Y := Y) (by omega) hC hD h.1.2.2.2.1 (fun σ1 hB1 hB2 => ?_)
      have hc1 := h.f6 hB2.f6
      have hf1 := hB2.f6.fm
      have hB1 : RC_ (vv_ a) (lv2_ a (Y : Int)) σ1 := hB1
      show V_ _ _ _ _ _ _ [] _
      refine V_aload_n (pc := 45) dX6_write_45 rfl rfl ?_
      refine V_geti (pc := 46) dX6_write_46 fX6_163 rfl gg_15 rfl (fun r46 => ?_)
      rw [show σ1 15 3 = a 12 2 from ((hc1.s1 (s := 2) (by decide)).2 c1).2.2.1] at r46 ⊢
      refine V_aload_n (pc := 49) dX6_write_49 rfl rfl ?_
      refine V_getr (pc := 50) dX6_write_50 fX6_53 rfl gg_0 rfl ?_
      refine V_geti (pc := 53) dX6_write_53 fX6_206 rfl gg_19 rfl (fun r53 => ?_)
      rw [hc1.2.1.2.1] at r53 ⊢
      refine V_mmin (pc := 56) dX6_write_56 kX6_276 ⟨by decide, Nat.le_of_ble_eq_true rfl⟩ (by constructor <;> omega) (by constructor <;> omega) ?_
      rw [show (if vv_ a 3 0 < a 12 2 then vv_ a 3 0 else a 12 2) = mw_ a 2 from rfl]
      refine V_istore (pc := 59) dX6_write_59 (by decide) rfl ?_
      show V_ _ _ _ _ _ [_, _, _, _, _, _] _ _
      refine V_iconst (pc := 61) dX6_write_61 ?_
      refine V_istore (pc := 62) dX6_write_62 (by decide) rfl ?_
      show V_ _ _ _ _ _ [_, _, _, _, _, _] _ _
      exact V_cg (lp_X6_write_15 h10 c1 hc1 hB1 hf1 hK 0 (Nat.zero_le _)) (by simp) rfl (by rw [wr_0])
    · skip
      have e : nx_write a y 2 = fd2_ a 1 := by unfold nx_write; rw [if_neg (by omega), show ((2 : Int)).toNat = 2 from rfl, if_pos (Decidable.byContradiction (fun z => h24 (cs.mpr z)))]
      refine V_aload_n (pc := 27) dX6_write_27 rfl rfl ?_
      refine V_iconst (pc := 28) dX6_write_28 ?_
      refine V_callV (pc := 29) (as := [_]) (rest := []) dX6_write_29 ⟨kX6_159, iX6_found, by decide, by decide⟩ rc_0 rfl rfl (Nat.le_of_ble_eq_true rfl) (Nat.le_of_ble_eq_true rfl) ?_
      refine ct_X6_found (by decide) ?_
      show V_ _ _ _ _ _ _ [_] _
      refine V_ireturn (pc := 32) dX6_write_32 rfl rfl (fun hR => ?_)
      have h2 := hK _ (by rw [e]; exact h.found (by omega)) (Fm_.rf.ms (by decide))
      rw [e] at h2
      exact h2
theorem lp_X6_write_17 {y : Int} (hy : 0 ≤ y ∧ y ≤ 29) (c1 : ¬ a 11 3 = -1) {σ1 : Mm_} (hc1 : CR_ a σ1) (hB1 : RC_ (vv_ a) (lv2_ a y) σ1) (hf1 : Fm_ σ σ1) (hK : ∀ σ2, CR_ (nx_write a y 3).2 σ2 → Fm_ σ σ2 → post (some (vi_ (nx_write a y 3).1)) σ2) : ∀ i : Nat, i ≤ (mw_ a 3).toNat → V_ l D mX6_write (CM_ D mX6_write post) 64 [some (vr_ 0), some (vi_ y), some (vi_ 3), some (vr_ 17), some (vi_ (mw_ a 3)), some (vi_ (i : Int))] [] (wr_ σ1 18 (fun q => cu_ (a 11 3) (lv2_ a y 0 q)) i) := by
  have hA := hc1.1.1
  have hW := vv_WF hA
  have wn := hW.n
  have hS : S1_ a σ1 3 17 := hc1.s1 (s := 3) (by decide)
  have hz := hA.2.2.2.2.2.1 3 (by decide)
  have hRa := hA.2.2.2.2.2.2.2
  have hm : 0 ≤ mw_ a 3 ∧ mw_ a 3 ≤ 8 ∧ mw_ a 3 ≤ a 12 3 ∧ mw_ a 3 ≤ vv_ a 3 0 := by unfold mw_; split <;> omega
  have hlw := li_RW (u := uu_ a) hW (y.toNat + 1) (by omega)
  refine up_ _ (fun i hi ih => ?_)
  refine V_iload (pc := 64) dX6_write_64 rfl ?_
  refine V_iload (pc := 66) dX6_write_66 rfl ?_
  refine V_icmp_ge (tgt := 93) (pc := 68) dX6_write_68 (by decide) (by constructor <;> omega) (by constructor <;> omega) (fun h68 => ?_) (fun h68 => ?_)
  · skip
    refine V_iload (pc := 93) dX6_write_93 rfl ?_
    refine V_ireturn (pc := 95) dX6_write_95 rfl rfl (fun hR => ?_)
    have e : nx_write a y 3 = (mw_ a 3, wr_ a 16 (fun q => cu_ (a 11 3) (lv2_ a y 0 q)) (mw_ a 3).toNat) := by unfold nx_write; rw [if_neg (by omega), show ((3 : Int)).toNat = 3 from rfl, if_neg c1]
    have hcr : CR_ (wr_ a 16 (fun q => cu_ (a 11 3) (lv2_ a y 0 q)) (mw_ a 3).toNat) (wr_ σ1 18 (fun q => cu_ (a 11 3) (lv2_ a y 0 q)) i) := by
      refine hc1.sht (s := 3) (k := 17) rfl (by decide) ⟨fun q hq => by rw [wr_rw (by decide), wr_rw (by decide)]; exact hA.2.2.2.2.2.1 q hq, fun x z => ?_⟩ (fun q q1 q2 => wr_rw q2) (fun q q1 q2 q3 => wr_rw q3) (fun q hq => by rw [wr_rw (by decide), wr_rw (by decide)]; exact ⟨rfl, rfl⟩) ⟨fun z => ?_, fun z => ⟨?_, ?_, ?_, fun q hq => ?_⟩⟩
      · unfold wr_
        split
        · rename_i c
          have := hlw.1 z (by omega)
          exact cu_rg ⟨by show _ ≤ li_ _ _ _ _ _; omega, by show li_ _ _ _ _ _ ≤ _; omega⟩
        · exact hRa x z
      · rw [wr_rw (by decide)] at z; exact absurd z c1
      · rw [wr_rw (by decide)]; exact (hS.2 c1).1
      · rw [wr_rw (by decide), wr_rw (by decide)]; exact (hS.2 c1).2.1
      · rw [wr_rw (by decide), wr_rw (by decide)]; exact (hS.2 c1).2.2.1
      · rw [wr_rw (by decide)] at hq
        show wr_ σ1 18 _ _ 18 q = wr_ a 16 _ _ 16 q
        rw [show (mw_ a 3).toNat = i by omega]
        unfold wr_
        by_cases c : q < i
        · rw [if_pos ⟨rfl, c⟩, if_pos ⟨rfl, c⟩]
        · rw [if_neg (fun z => c z.2), if_neg (fun z => c z.2)]
          exact (hS.2 c1).2.2.2 q hq
    have h2 := hK _ (by rw [e]; exact hcr) (hf1.wr (by decide))
    rw [e] at h2
    exact h2
  · skip
    refine V_aload_n (pc := 71) dX6_write_71 rfl rfl ?_
    refine V_iload (pc := 72) dX6_write_72 rfl ?_
    refine V_aload_n (pc := 74) dX6_write_74 rfl rfl ?_
    refine V_getr (pc := 75) dX6_write_75 fX6_57 rfl gg_0 rfl ?_
    refine V_getr (pc := 78) dX6_write_78 fX6_183 rfl gg_29 rfl ?_
    refine V_iload (pc := 81) dX6_write_81 rfl ?_
    refine V_ialdN (pc := 83) dX6_write_83 gg_30 (by omega) (by decide) (fun r83 => ?_)
    rw [wr_nk (by decide), hB1.1 i (by omega)] at r83 ⊢
    refine V_callV (pc := 84) (as := [_, _]) (rest := []) dX6_write_84 ⟨kX6_260, iX4_put, by decide, by decide⟩ rc_17 rfl rfl (Nat.le_of_ble_eq_true rfl) (Nat.le_of_ble_eq_true rfl) ?_
    refine ct_X4_put_17 (f := a 11 3) (z := a 12 3) (by rw [wr_nk (by decide)]; exact (hS.2 c1).2.1) (by omega) (by rw [wr_nk (by decide)]; exact (hS.2 c1).2.2.1) (by omega) (by omega) r83 ?_
    show V_ _ _ _ _ _ _ [] _
    refine V_iinc (pc := 87) dX6_write_87 rfl (by decide) rfl ?_
    show V_ _ _ _ _ _ [_, _, _, _, _, _] _ _
    refine V_goto (tgt := 64) (pc := 90) dX6_write_90 (by decide) ?_
    exact V_cg (ih (by omega)) (by simp) rfl (by rw [wr_s rfl])
theorem ct_X6_write_17 {y : Int} (hy : Rg_ y) (h : CR_ a σ) (hK : ∀ σ1, CR_ (nx_write a y 3).2 σ1 → Fm_ σ σ1 → post (some (vi_ (nx_write a y 3).1)) σ1) : V_ l D mX6_write (CM_ D mX6_write post) 0 [some (vr_ 0), some (vi_ y), some (vi_ 3), none, none, none] [] σ := by
  have hA := h.1.1
  have hW := vv_WF hA
  have hC := h.2.1
  have hD := h.2.2
  have ws := hW.s
  have wn := hW.n
  have wl := hW.l
  have hS : S1_ a σ 3 17 := h.s1 (s := 3) (by decide)
  have hz := hA.2.2.2.2.2.1 3 (by decide)
  have hRa := hA.2.2.2.2.2.2.2
  have cs : σ 17 1 = 0 ↔ ¬ a 11 3 = -1 := ⟨fun z c => by rw [hS.1 c] at z; exact absurd z (by decide), fun c => (hS.2 c).1⟩
  refine V_aload_n (pc := 0) dX6_write_0 rfl rfl ?_
  refine V_iload_n (pc := 1) dX6_write_1 rfl rfl ?_
  refine V_callV (pc := 2) (as := [_]) (rest := []) dX6_write_2 ⟨kX6_151, iX6_sheetAt, by decide, by decide⟩ rc_0 rfl rfl (Nat.le_of_ble_eq_true rfl) (Nat.le_of_ble_eq_true rfl) ?_
  refine ct_X6_sheetAt_17 ?_
  show V_ _ _ _ _ _ _ [_] _
  refine V_astore_n (pc := 5) dX6_write_5 rfl (by decide) rfl ?_
  show V_ _ _ _ _ _ [_, _, _, _, _, _] _ _
  refine V_iload_n (pc := 6) dX6_write_6 rfl rfl ?_
  refine V_callS (pc := 7) (as := [_]) (rest := []) dX6_write_7 ⟨kX6_176, sX6_isYear, by decide, by decide⟩ rfl rfl (Nat.le_of_ble_eq_true rfl) (Nat.le_of_ble_eq_true rfl) ?_
  refine ct_X6_isYear (by first | assumption | decide | omega | exact ba_rg hR | exact b2_rg) ?_
  show V_ _ _ _ _ _ _ [_] _
  refine V_if_eq (tgt := 17) (pc := 10) dX6_write_10 (by decide) (by first | assumption | decide | omega | exact ba_rg hR | exact b2_rg) (fun h10 => ?_) (fun h10 => ?_)
  · skip
    rw [b2_0] at h10
    have e : nx_write a y 3 = (-2, a) := if_pos (Or.inl h10)
    refine V_bipush (pc := 17) dX6_write_17 (by decide) ?_
    refine V_ireturn (pc := 19) dX6_write_19 rfl rfl (fun hR => ?_)
    have h2 := hK σ (by rw [e]; exact h) Fm_.rf
    rw [e] at h2
    exact h2
  · skip
    rw [b2_n0] at h10
    refine V_aload_n (pc := 13) dX6_write_13 rfl rfl ?_
    refine V_ifnonnull (tgt := 20) (pc := 14) dX6_write_14 (by decide) (fun _ _ => ?_) (fun z => by cases z)
    refine V_aload_n (pc := 20) dX6_write_20 rfl rfl ?_
    refine V_geti (pc := 21) dX6_write_21 fX6_155 rfl gg_17 rfl (fun r21 => ?_)
    refine V_if_eq (tgt := 33) (pc := 24) dX6_write_24 (by decide) (by constructor <;> omega) (fun h24 => ?_) (fun h24 => ?_)
    · skip
      have c1 := cs.mp h24
      refine V_aload_n (pc := 33) dX6_write_33 rfl rfl ?_
      refine V_getr (pc := 34) dX6_write_34 fX6_57 rfl gg_0 rfl ?_
      refine V_aload_n (pc := 37) dX6_write_37 rfl rfl ?_
      refine V_getr (pc := 38) dX6_write_38 fX6_35 rfl gg_0 rfl ?_
      refine V_iload_n (pc := 41) dX6_write_41 rfl rfl ?_
      refine V_callV (pc := 42) (as := [_, _]) (rest := []) dX6_write_42 ⟨kX6_179, iX3_followTold, by decide, by decide⟩ rc_29 rfl rfl (Nat.le_of_ble_eq_true rfl) (Nat.le_of_ble_eq_true rfl) ?_
      obtain ⟨Y, hY⟩ := i_nat (show 0 ≤ y by omega)
      subst hY
      refine ct_X3_followTold hW hA.2.2.2.1 (Y := Y) (by omega) hC hD h.1.2.2.2.1 (fun σ1 hB1 hB2 => ?_)
      have hc1 := h.f6 hB2.f6
      have hf1 := hB2.f6.fm
      have hB1 : RC_ (vv_ a) (lv2_ a (Y : Int)) σ1 := hB1
      show V_ _ _ _ _ _ _ [] _
      refine V_aload_n (pc := 45) dX6_write_45 rfl rfl ?_
      refine V_geti (pc := 46) dX6_write_46 fX6_163 rfl gg_17 rfl (fun r46 => ?_)
      rw [show σ1 17 3 = a 12 3 from ((hc1.s1 (s := 3) (by decide)).2 c1).2.2.1] at r46 ⊢
      refine V_aload_n (pc := 49) dX6_write_49 rfl rfl ?_
      refine V_getr (pc := 50) dX6_write_50 fX6_53 rfl gg_0 rfl ?_
      refine V_geti (pc := 53) dX6_write_53 fX6_206 rfl gg_19 rfl (fun r53 => ?_)
      rw [hc1.2.1.2.1] at r53 ⊢
      refine V_mmin (pc := 56) dX6_write_56 kX6_276 ⟨by decide, Nat.le_of_ble_eq_true rfl⟩ (by constructor <;> omega) (by constructor <;> omega) ?_
      rw [show (if vv_ a 3 0 < a 12 3 then vv_ a 3 0 else a 12 3) = mw_ a 3 from rfl]
      refine V_istore (pc := 59) dX6_write_59 (by decide) rfl ?_
      show V_ _ _ _ _ _ [_, _, _, _, _, _] _ _
      refine V_iconst (pc := 61) dX6_write_61 ?_
      refine V_istore (pc := 62) dX6_write_62 (by decide) rfl ?_
      show V_ _ _ _ _ _ [_, _, _, _, _, _] _ _
      exact V_cg (lp_X6_write_17 h10 c1 hc1 hB1 hf1 hK 0 (Nat.zero_le _)) (by simp) rfl (by rw [wr_0])
    · skip
      have e : nx_write a y 3 = fd2_ a 1 := by unfold nx_write; rw [if_neg (by omega), show ((3 : Int)).toNat = 3 from rfl, if_pos (Decidable.byContradiction (fun z => h24 (cs.mpr z)))]
      refine V_aload_n (pc := 27) dX6_write_27 rfl rfl ?_
      refine V_iconst (pc := 28) dX6_write_28 ?_
      refine V_callV (pc := 29) (as := [_]) (rest := []) dX6_write_29 ⟨kX6_159, iX6_found, by decide, by decide⟩ rc_0 rfl rfl (Nat.le_of_ble_eq_true rfl) (Nat.le_of_ble_eq_true rfl) ?_
      refine ct_X6_found (by decide) ?_
      show V_ _ _ _ _ _ _ [_] _
      refine V_ireturn (pc := 32) dX6_write_32 rfl rfl (fun hR => ?_)
      have h2 := hK _ (by rw [e]; exact h.found (by omega)) (Fm_.rf.ms (by decide))
      rw [e] at h2
      exact h2
theorem ct_X6_write {y s : Int} (hy : Rg_ y) (hs : Rg_ s) (h : CR_ a σ) (hK : ∀ σ1, CR_ (nx_write a y s).2 σ1 → Fm_ σ σ1 → post (some (vi_ (nx_write a y s).1)) σ1) : V_ l D mX6_write (CM_ D mX6_write post) 0 [some (vr_ 0), some (vi_ y), some (vi_ s), none, none, none] [] σ := by
  by_cases c0 : s = 0
  · subst c0; exact ct_X6_write_11 hy h hK
  by_cases c1 : s = 1
  · subst c1; exact ct_X6_write_13 hy h hK
  by_cases c2 : s = 2
  · subst c2; exact ct_X6_write_15 hy h hK
  by_cases c3 : s = 3
  · subst c3; exact ct_X6_write_17 hy h hK
  have e : nx_write a y s = (-2, a) := if_pos (Or.inr (by omega))
  refine V_aload_n (pc := 0) dX6_write_0 rfl rfl ?_
  refine V_iload_n (pc := 1) dX6_write_1 rfl rfl ?_
  refine V_callV (pc := 2) (as := [_]) (rest := []) dX6_write_2 ⟨kX6_151, iX6_sheetAt, by decide, by decide⟩ rc_0 rfl rfl (Nat.le_of_ble_eq_true rfl) (Nat.le_of_ble_eq_true rfl) ?_
  refine ct_X6_sheetAt_n hs (by omega) ?_
  show V_ _ _ _ _ _ _ [_] _
  refine V_astore_n (pc := 5) dX6_write_5 rfl (by decide) rfl ?_
  show V_ _ _ _ _ _ [_, _, _, _, _, _] _ _
  refine V_iload_n (pc := 6) dX6_write_6 rfl rfl ?_
  refine V_callS (pc := 7) (as := [_]) (rest := []) dX6_write_7 ⟨kX6_176, sX6_isYear, by decide, by decide⟩ rfl rfl (Nat.le_of_ble_eq_true rfl) (Nat.le_of_ble_eq_true rfl) ?_
  refine ct_X6_isYear (by first | assumption | decide | omega | exact ba_rg hR | exact b2_rg) ?_
  show V_ _ _ _ _ _ _ [_] _
  refine V_if_eq (tgt := 17) (pc := 10) dX6_write_10 (by decide) b2_rg (fun h10 => ?_) (fun h10 => ?_)
  · skip
    refine V_bipush (pc := 17) dX6_write_17 (by decide) ?_
    refine V_ireturn (pc := 19) dX6_write_19 rfl rfl (fun hR => ?_)
    have h2 := hK σ (by rw [e]; exact h) Fm_.rf
    rw [e] at h2
    exact h2
  · skip
    refine V_aload_n (pc := 13) dX6_write_13 rfl rfl ?_
    refine V_ifnonnull (tgt := 20) (pc := 14) dX6_write_14 (by decide) (fun _ z => by cases z) (fun _ => ?_)
    refine V_bipush (pc := 17) dX6_write_17 (by decide) ?_
    refine V_ireturn (pc := 19) dX6_write_19 rfl rfl (fun hR => ?_)
    have h2 := hK σ (by rw [e]; exact h) Fm_.rf
    rw [e] at h2
    exact h2
theorem lp_X6_read_11 (hK : ∀ σ2, CR_ (rd_ 0 13 0 a).2 σ2 → Fm_ σ σ2 → post (some (vi_ ((rd_ 0 13 0 a).1 : Int))) σ2) : ∀ n c : Nat, ∀ b τ : Mm_, c ≤ 12 → CR_ b τ → Fm_ σ τ → ¬ b 11 0 = -1 → rd_ 0 n c b = rd_ 0 13 0 a → 12 - b 5 0 < (n : Int) → c + n ≤ 13 → V_ l D mX6_read (CM_ D mX6_read post) 31 [some (vr_ 0), some (vi_ 0), some (vr_ 11), some (vi_ (c : Int)), some (vi_ ((2 * c : Nat) : Int))] [] τ := by
  intro n
  induction n with
  | zero => intro c b τ hc12 h hF hl hr hn hcn; have := h.1.1.2.2.2.1.1; exact absurd hn (by have e : uu_ b 0 0 = b 5 0 := rfl; rw [e] at this; omega)
  | succ n ih =>
    intro c b τ hc12 h hF hl hr hn hcn
    have hA := h.1.1
    have hS : S1_ b τ 0 11 := h.s1 (s := 0) (by decide)
    have hz := hA.2.2.2.2.2.1 0 (by decide)
    have hL := h.1.2.2.2.1
    have hLW : 0 ≤ b 5 0 ∧ b 5 0 ≤ 12 := hA.2.2.2.1.1
    obtain ⟨q, hq⟩ := i_nat (show 0 ≤ b 5 0 from hLW.1)
    have hs7 : τ 7 2 = (q : Int) := hL.1.trans hq
    have zS := hS.2 hl
    rw [rd_] at hr
    refine V_iload (pc := 31) dX6_read_31 rfl ?_
    refine V_iconst (pc := 33) dX6_read_33 ?_
    refine V_iadd (pc := 34) dX6_read_34 ?_
    refine V_aload_n (pc := 35) dX6_read_35 rfl rfl ?_
    refine V_geti (pc := 36) dX6_read_36 fX6_163 rfl gg_11 rfl (fun r36 => ?_)
    rw [zS.2.2.1] at r36 ⊢
    refine V_icmp_ge (tgt := 110) (pc := 39) dX6_read_39 (by decide) (by constructor <;> omega) (by constructor <;> omega) (fun h39 => ?_) (fun h39 => ?_)
    · skip
      rw [if_neg (by rw [b2_f (fun z => absurd z.1 (by omega))]; decide)] at hr
      refine V_iload_n (pc := 110) dX6_read_110 rfl rfl ?_
      refine V_ireturn (pc := 111) dX6_read_111 rfl rfl (fun hR => ?_)
      have h2 := hK τ (by rw [← hr]; exact h) hF
      rw [← hr] at h2
      exact h2
    · skip
      refine V_aload_n (pc := 42) dX6_read_42 rfl rfl ?_
      refine V_getr (pc := 43) dX6_read_43 fX6_35 rfl gg_0 rfl ?_
      refine V_callV (pc := 46) (as := []) (rest := []) dX6_read_46 ⟨kX6_144, iX2_isFull, by decide, by decide⟩ rc_7 rfl rfl (Nat.le_of_ble_eq_true rfl) (Nat.le_of_ble_eq_true rfl) ?_
      refine ct_X2_isFull_7 hs7 ?_
      show V_ _ _ _ _ _ _ [_] _
      refine V_if_ne (tgt := 110) (pc := 49) dX6_read_49 (by decide) b2_rg (fun h49 => ?_) (fun h49 => ?_)
      · skip
        rw [b2_n0] at h49
        rw [if_neg (by rw [b2_f (fun z => absurd z.2.1 (by omega))]; decide)] at hr
        refine V_iload_n (pc := 110) dX6_read_110 rfl rfl ?_
        refine V_ireturn (pc := 111) dX6_read_111 rfl rfl (fun hR => ?_)
        have h2 := hK τ (by rw [← hr]; exact h) hF
        rw [← hr] at h2
        exact h2
      · skip
        rw [b2_0] at h49
        refine V_aload_n (pc := 52) dX6_read_52 rfl rfl ?_
        refine V_getr (pc := 53) dX6_read_53 fX6_164 rfl gg_11 rfl ?_
        refine V_iload (pc := 56) dX6_read_56 rfl ?_
        refine V_ialdN (pc := 58) dX6_read_58 gg_12 (by omega) (by decide) (fun r58 => ?_)
        rw [show τ 12 (2 * c) = b 13 (2 * c) from zS.2.2.2 _ (by omega)] at r58 ⊢
        refine V_aload_n (pc := 59) dX6_read_59 rfl rfl ?_
        refine V_getr (pc := 60) dX6_read_60 fX6_164 rfl gg_11 rfl ?_
        refine V_iload (pc := 63) dX6_read_63 rfl ?_
        refine V_iconst (pc := 65) dX6_read_65 ?_
        refine V_iadd (pc := 66) dX6_read_66 ?_
        refine V_iald (pc := 67) dX6_read_67 gg_12 (by have : ((60 : Nat) : Int) = 60 := rfl; omega) (by decide) (fun r67 => ?_)
        rw [show (((2 * c : Nat) : Int) + 1).toNat = 2 * c + 1 by omega, show τ 12 (2 * c + 1) = b 13 (2 * c + 1) from zS.2.2.2 _ (by omega)] at r67 ⊢
        refine V_callS (pc := 68) (as := [_, _]) (rest := []) dX6_read_68 ⟨kX6_141, sX6_isLoss, by decide, by decide⟩ rfl rfl (Nat.le_of_ble_eq_true rfl) (Nat.le_of_ble_eq_true rfl) ?_
        refine ct_X6_isLoss r58 r67 ?_
        show V_ _ _ _ _ _ _ [_] _
        refine V_if_ne (tgt := 77) (pc := 71) dX6_read_71 (by decide) b2_rg (fun h71 => ?_) (fun h71 => ?_)
        · skip
          rw [b2_n0] at h71
          rw [if_pos (b2_t ⟨by omega, by omega, h71⟩)] at hr
          refine V_aload_n (pc := 77) dX6_read_77 rfl rfl ?_
          refine V_getr (pc := 78) dX6_read_78 fX6_35 rfl gg_0 rfl ?_
          refine V_aload_n (pc := 81) dX6_read_81 rfl rfl ?_
          refine V_getr (pc := 82) dX6_read_82 fX6_164 rfl gg_11 rfl ?_
          refine V_iload (pc := 85) dX6_read_85 rfl ?_
          refine V_ialdN (pc := 87) dX6_read_87 gg_12 (by omega) (by decide) (fun r87 => ?_)
          rw [show τ 12 (2 * c) = b 13 (2 * c) from zS.2.2.2 _ (by omega)] at r87 ⊢
          refine V_aload_n (pc := 88) dX6_read_88 rfl rfl ?_
          refine V_getr (pc := 89) dX6_read_89 fX6_164 rfl gg_11 rfl ?_
          refine V_iload (pc := 92) dX6_read_92 rfl ?_
          refine V_iconst (pc := 94) dX6_read_94 ?_
          refine V_iadd (pc := 95) dX6_read_95 ?_
          refine V_iald (pc := 96) dX6_read_96 gg_12 (by have : ((60 : Nat) : Int) = 60 := rfl; omega) (by decide) (fun r96 => ?_)
          rw [show (((2 * c : Nat) : Int) + 1).toNat = 2 * c + 1 by omega, show τ 12 (2 * c + 1) = b 13 (2 * c + 1) from zS.2.2.2 _ (by omega)] at r96 ⊢
          refine V_callV (pc := 97) (as := [_, _]) (rest := []) dX6_read_97 ⟨kX6_145, iX2_append, by decide, by decide⟩ rc_7 rfl rfl (Nat.le_of_ble_eq_true rfl) (Nat.le_of_ble_eq_true rfl) ?_
          refine ct_X2_append_7 r87 r96 hs7 (by omega) ?_
          show V_ _ _ _ _ _ _ [_] _
          refine V_pop (pc := 100) dX6_read_100 rfl ?_
          refine V_iinc (pc := 101) dX6_read_101 rfl (by decide) rfl ?_
          show V_ _ _ _ _ _ [_, _, _, _, _] _ _
          refine V_iinc (pc := 104) dX6_read_104 rfl (by decide) rfl ?_
          show V_ _ _ _ _ _ [_, _, _, _, _] _ _
          refine V_goto (tgt := 31) (pc := 107) dX6_read_107 (by decide) ?_
          have hb11 : ap_ b (b 13 (2 * c)) (b 13 (2 * c + 1)) 11 = b 11 := by unfold ap_; rw [ms_rw (by decide), ms_rw (by decide), ms_rw (by decide)]
          have hb5 : ap_ b (b 13 (2 * c)) (b 13 (2 * c + 1)) 5 0 = b 5 0 + 1 := by unfold ap_; rw [ms_eq]
          exact V_cg (ih (c + 1) _ _ (by omega) (h.app h71.1 h71.2 hq (by omega)) (((hF.ms (by decide)).ms (by decide)).ms (by decide)) (by rw [hb11]; exact hl) hr (by rw [hb5]; omega) (by omega)) (by simp; omega) rfl rfl
        · skip
          rw [b2_0] at h71
          rw [if_neg (by rw [b2_f (fun z => h71 z.2.2)]; decide)] at hr
          refine V_goto (tgt := 110) (pc := 74) dX6_read_74 (by decide) ?_
          refine V_iload_n (pc := 110) dX6_read_110 rfl rfl ?_
          refine V_ireturn (pc := 111) dX6_read_111 rfl rfl (fun hR => ?_)
          have h2 := hK τ (by rw [← hr]; exact h) hF
          rw [← hr] at h2
          exact h2
theorem ct_X6_read_11 (h : CR_ a σ) (hK : ∀ σ1, CR_ (nx_read a 0).2 σ1 → Fm_ σ σ1 → post (some (vi_ (nx_read a 0).1)) σ1) : V_ l D mX6_read (CM_ D mX6_read post) 0 [some (vr_ 0), some (vi_ 0), none, none, none] [] σ := by
  have hA := h.1.1
  have hW := vv_WF hA
  have hC := h.2.1
  have hD := h.2.2
  have ws := hW.s
  have wn := hW.n
  have wl := hW.l
  have hS : S1_ a σ 0 11 := h.s1 (s := 0) (by decide)
  have hz := hA.2.2.2.2.2.1 0 (by decide)
  have hRa := hA.2.2.2.2.2.2.2
  have cs : σ 11 1 = 0 ↔ ¬ a 11 0 = -1 := ⟨fun z c => by rw [hS.1 c] at z; exact absurd z (by decide), fun c => (hS.2 c).1⟩
  refine V_aload_n (pc := 0) dX6_read_0 rfl rfl ?_
  refine V_iload_n (pc := 1) dX6_read_1 rfl rfl ?_
  refine V_callV (pc := 2) (as := [_]) (rest := []) dX6_read_2 ⟨kX6_151, iX6_sheetAt, by decide, by decide⟩ rc_0 rfl rfl (Nat.le_of_ble_eq_true rfl) (Nat.le_of_ble_eq_true rfl) ?_
  refine ct_X6_sheetAt_11 ?_
  show V_ _ _ _ _ _ _ [_] _
  refine V_astore_n (pc := 5) dX6_read_5 rfl (by decide) rfl ?_
  show V_ _ _ _ _ _ [_, _, _, _, _] _ _
  refine V_aload_n (pc := 6) dX6_read_6 rfl rfl ?_
  refine V_ifnonnull (tgt := 13) (pc := 7) dX6_read_7 (by decide) (fun _ _ => ?_) (fun z => by cases z)
  refine V_aload_n (pc := 13) dX6_read_13 rfl rfl ?_
  refine V_geti (pc := 14) dX6_read_14 fX6_155 rfl gg_11 rfl (fun r14 => ?_)
  refine V_if_eq (tgt := 26) (pc := 17) dX6_read_17 (by decide) (by first | assumption | decide | omega | exact ba_rg hR | exact b2_rg) (fun h17 => ?_) (fun h17 => ?_)
  · skip
    have c1 := cs.mp h17
    have e : nx_read a 0 = (((rd_ 0 13 0 a).1 : Int), (rd_ 0 13 0 a).2) := by unfold nx_read; rw [if_neg (by omega), show ((0 : Int)).toNat = 0 from rfl, if_neg c1]
    rw [e] at hK
    refine V_iconst (pc := 26) dX6_read_26 ?_
    refine V_istore_n (pc := 27) dX6_read_27 rfl (by decide) rfl ?_
    show V_ _ _ _ _ _ [_, _, _, _, _] _ _
    refine V_iconst (pc := 28) dX6_read_28 ?_
    refine V_istore (pc := 29) dX6_read_29 (by decide) rfl ?_
    show V_ _ _ _ _ _ [_, _, _, _, _] _ _
    exact V_cg (lp_X6_read_11 hK 13 0 a σ (by decide) h Fm_.rf c1 rfl (by have e : uu_ a 0 0 = a 5 0 := rfl; have := hA.2.2.2.1.1; rw [e] at this; omega) (by decide)) (by simp) rfl rfl
  · skip
    have e : nx_read a 0 = fd2_ a 1 := by unfold nx_read; rw [if_neg (by omega), show ((0 : Int)).toNat = 0 from rfl, if_pos (Decidable.byContradiction (fun z => h17 (cs.mpr z)))]
    refine V_aload_n (pc := 20) dX6_read_20 rfl rfl ?_
    refine V_iconst (pc := 21) dX6_read_21 ?_
    refine V_callV (pc := 22) (as := [_]) (rest := []) dX6_read_22 ⟨kX6_159, iX6_found, by decide, by decide⟩ rc_0 rfl rfl (Nat.le_of_ble_eq_true rfl) (Nat.le_of_ble_eq_true rfl) ?_
    refine ct_X6_found (by decide) ?_
    show V_ _ _ _ _ _ _ [_] _
    refine V_ireturn (pc := 25) dX6_read_25 rfl rfl (fun hR => ?_)
    have h2 := hK _ (by rw [e]; exact h.found (by omega)) (Fm_.rf.ms (by decide))
    rw [e] at h2
    exact h2
theorem lp_X6_read_13 (hK : ∀ σ2, CR_ (rd_ 1 13 0 a).2 σ2 → Fm_ σ σ2 → post (some (vi_ ((rd_ 1 13 0 a).1 : Int))) σ2) : ∀ n c : Nat, ∀ b τ : Mm_, c ≤ 12 → CR_ b τ → Fm_ σ τ → ¬ b 11 1 = -1 → rd_ 1 n c b = rd_ 1 13 0 a → 12 - b 5 0 < (n : Int) → c + n ≤ 13 → V_ l D mX6_read (CM_ D mX6_read post) 31 [some (vr_ 0), some (vi_ 1), some (vr_ 13), some (vi_ (c : Int)), some (vi_ ((2 * c : Nat) : Int))] [] τ := by
  intro n
  induction n with
  | zero => intro c b τ hc12 h hF hl hr hn hcn; have := h.1.1.2.2.2.1.1; exact absurd hn (by have e : uu_ b 0 0 = b 5 0 := rfl; rw [e] at this; omega)
  | succ n ih =>
    intro c b τ hc12 h hF hl hr hn hcn
    have hA := h.1.1
    have hS : S1_ b τ 1 13 := h.s1 (s := 1) (by decide)
    have hz := hA.2.2.2.2.2.1 1 (by decide)
    have hL := h.1.2.2.2.1
    have hLW : 0 ≤ b 5 0 ∧ b 5 0 ≤ 12 := hA.2.2.2.1.1
    obtain ⟨q, hq⟩ := i_nat (show 0 ≤ b 5 0 from hLW.1)
    have hs7 : τ 7 2 = (q : Int) := hL.1.trans hq
    have zS := hS.2 hl
    rw [rd_] at hr
    refine V_iload (pc := 31) dX6_read_31 rfl ?_
    refine V_iconst (pc := 33) dX6_read_33 ?_
    refine V_iadd (pc := 34) dX6_read_34 ?_
    refine V_aload_n (pc := 35) dX6_read_35 rfl rfl ?_
    refine V_geti (pc := 36) dX6_read_36 fX6_163 rfl gg_13 rfl (fun r36 => ?_)
    rw [zS.2.2.1] at r36 ⊢
    refine V_icmp_ge (tgt := 110) (pc := 39) dX6_read_39 (by decide) (by constructor <;> omega) (by constructor <;> omega) (fun h39 => ?_) (fun h39 => ?_)
    · skip
      rw [if_neg (by rw [b2_f (fun z => absurd z.1 (by omega))]; decide)] at hr
      refine V_iload_n (pc := 110) dX6_read_110 rfl rfl ?_
      refine V_ireturn (pc := 111) dX6_read_111 rfl rfl (fun hR => ?_)
      have h2 := hK τ (by rw [← hr]; exact h) hF
      rw [← hr] at h2
      exact h2
    · skip
      refine V_aload_n (pc := 42) dX6_read_42 rfl rfl ?_
      refine V_getr (pc := 43) dX6_read_43 fX6_35 rfl gg_0 rfl ?_
      refine V_callV (pc := 46) (as := []) (rest := []) dX6_read_46 ⟨kX6_144, iX2_isFull, by decide, by decide⟩ rc_7 rfl rfl (Nat.le_of_ble_eq_true rfl) (Nat.le_of_ble_eq_true rfl) ?_
      refine ct_X2_isFull_7 hs7 ?_
      show V_ _ _ _ _ _ _ [_] _
      refine V_if_ne (tgt := 110) (pc := 49) dX6_read_49 (by decide) b2_rg (fun h49 => ?_) (fun h49 => ?_)
      · skip
        rw [b2_n0] at h49
        rw [if_neg (by rw [b2_f (fun z => absurd z.2.1 (by omega))]; decide)] at hr
        refine V_iload_n (pc := 110) dX6_read_110 rfl rfl ?_
        refine V_ireturn (pc := 111) dX6_read_111 rfl rfl (fun hR => ?_)
        have h2 := hK τ (by rw [← hr]; exact h) hF
        rw [← hr] at h2
        exact h2
      · skip
        rw [b2_0] at h49
        refine V_aload_n (pc := 52) dX6_read_52 rfl rfl ?_
        refine V_getr (pc := 53) dX6_read_53 fX6_164 rfl gg_13 rfl ?_
        refine V_iload (pc := 56) dX6_read_56 rfl ?_
        refine V_ialdN (pc := 58) dX6_read_58 gg_14 (by omega) (by decide) (fun r58 => ?_)
        rw [show τ 14 (2 * c) = b 14 (2 * c) from zS.2.2.2 _ (by omega)] at r58 ⊢
        refine V_aload_n (pc := 59) dX6_read_59 rfl rfl ?_
        refine V_getr (pc := 60) dX6_read_60 fX6_164 rfl gg_13 rfl ?_
        refine V_iload (pc := 63) dX6_read_63 rfl ?_
        refine V_iconst (pc := 65) dX6_read_65 ?_
        refine V_iadd (pc := 66) dX6_read_66 ?_
        refine V_iald (pc := 67) dX6_read_67 gg_14 (by have : ((60 : Nat) : Int) = 60 := rfl; omega) (by decide) (fun r67 => ?_)
        rw [show (((2 * c : Nat) : Int) + 1).toNat = 2 * c + 1 by omega, show τ 14 (2 * c + 1) = b 14 (2 * c + 1) from zS.2.2.2 _ (by omega)] at r67 ⊢
        refine V_callS (pc := 68) (as := [_, _]) (rest := []) dX6_read_68 ⟨kX6_141, sX6_isLoss, by decide, by decide⟩ rfl rfl (Nat.le_of_ble_eq_true rfl) (Nat.le_of_ble_eq_true rfl) ?_
        refine ct_X6_isLoss r58 r67 ?_
        show V_ _ _ _ _ _ _ [_] _
        refine V_if_ne (tgt := 77) (pc := 71) dX6_read_71 (by decide) b2_rg (fun h71 => ?_) (fun h71 => ?_)
        · skip
          rw [b2_n0] at h71
          rw [if_pos (b2_t ⟨by omega, by omega, h71⟩)] at hr
          refine V_aload_n (pc := 77) dX6_read_77 rfl rfl ?_
          refine V_getr (pc := 78) dX6_read_78 fX6_35 rfl gg_0 rfl ?_
          refine V_aload_n (pc := 81) dX6_read_81 rfl rfl ?_
          refine V_getr (pc := 82) dX6_read_82 fX6_164 rfl gg_13 rfl ?_
          refine V_iload (pc := 85) dX6_read_85 rfl ?_
          refine V_ialdN (pc := 87) dX6_read_87 gg_14 (by omega) (by decide) (fun r87 => ?_)
          rw [show τ 14 (2 * c) = b 14 (2 * c) from zS.2.2.2 _ (by omega)] at r87 ⊢
          refine V_aload_n (pc := 88) dX6_read_88 rfl rfl ?_
          refine V_getr (pc := 89) dX6_read_89 fX6_164 rfl gg_13 rfl ?_
          refine V_iload (pc := 92) dX6_read_92 rfl ?_
          refine V_iconst (pc := 94) dX6_read_94 ?_
          refine V_iadd (pc := 95) dX6_read_95 ?_
          refine V_iald (pc := 96) dX6_read_96 gg_14 (by have : ((60 : Nat) : Int) = 60 := rfl; omega) (by decide) (fun r96 => ?_)
          rw [show (((2 * c : Nat) : Int) + 1).toNat = 2 * c + 1 by omega, show τ 14 (2 * c + 1) = b 14 (2 * c + 1) from zS.2.2.2 _ (by omega)] at r96 ⊢
          refine V_callV (pc := 97) (as := [_, _]) (rest := []) dX6_read_97 ⟨kX6_145, iX2_append, by decide, by decide⟩ rc_7 rfl rfl (Nat.le_of_ble_eq_true rfl) (Nat.le_of_ble_eq_true rfl) ?_
          refine ct_X2_append_7 r87 r96 hs7 (by omega) ?_
          show V_ _ _ _ _ _ _ [_] _
          refine V_pop (pc := 100) dX6_read_100 rfl ?_
          refine V_iinc (pc := 101) dX6_read_101 rfl (by decide) rfl ?_
          show V_ _ _ _ _ _ [_, _, _, _, _] _ _
          refine V_iinc (pc := 104) dX6_read_104 rfl (by decide) rfl ?_
          show V_ _ _ _ _ _ [_, _, _, _, _] _ _
          refine V_goto (tgt := 31) (pc := 107) dX6_read_107 (by decide) ?_
          have hb11 : ap_ b (b 14 (2 * c)) (b 14 (2 * c + 1)) 11 = b 11 := by unfold ap_; rw [ms_rw (by decide), ms_rw (by decide), ms_rw (by decide)]
          have hb5 : ap_ b (b 14 (2 * c)) (b 14 (2 * c + 1)) 5 0 = b 5 0 + 1 := by unfold ap_; rw [ms_eq]
          exact V_cg (ih (c + 1) _ _ (by omega) (h.app h71.1 h71.2 hq (by omega)) (((hF.ms (by decide)).ms (by decide)).ms (by decide)) (by rw [hb11]; exact hl) hr (by rw [hb5]; omega) (by omega)) (by simp; omega) rfl rfl
        · skip
          rw [b2_0] at h71
          rw [if_neg (by rw [b2_f (fun z => h71 z.2.2)]; decide)] at hr
          refine V_goto (tgt := 110) (pc := 74) dX6_read_74 (by decide) ?_
          refine V_iload_n (pc := 110) dX6_read_110 rfl rfl ?_
          refine V_ireturn (pc := 111) dX6_read_111 rfl rfl (fun hR => ?_)
          have h2 := hK τ (by rw [← hr]; exact h) hF
          rw [← hr] at h2
          exact h2
theorem ct_X6_read_13 (h : CR_ a σ) (hK : ∀ σ1, CR_ (nx_read a 1).2 σ1 → Fm_ σ σ1 → post (some (vi_ (nx_read a 1).1)) σ1) : V_ l D mX6_read (CM_ D mX6_read post) 0 [some (vr_ 0), some (vi_ 1), none, none, none] [] σ := by
  have hA := h.1.1
  have hW := vv_WF hA
  have hC := h.2.1
  have hD := h.2.2
  have ws := hW.s
  have wn := hW.n
  have wl := hW.l
  have hS : S1_ a σ 1 13 := h.s1 (s := 1) (by decide)
  have hz := hA.2.2.2.2.2.1 1 (by decide)
  have hRa := hA.2.2.2.2.2.2.2
  have cs : σ 13 1 = 0 ↔ ¬ a 11 1 = -1 := ⟨fun z c => by rw [hS.1 c] at z; exact absurd z (by decide), fun c => (hS.2 c).1⟩
  refine V_aload_n (pc := 0) dX6_read_0 rfl rfl ?_
  refine V_iload_n (pc := 1) dX6_read_1 rfl rfl ?_
  refine V_callV (pc := 2) (as := [_]) (rest := []) dX6_read_2 ⟨kX6_151, iX6_sheetAt, by decide, by decide⟩ rc_0 rfl rfl (Nat.le_of_ble_eq_true rfl) (Nat.le_of_ble_eq_true rfl) ?_
  refine ct_X6_sheetAt_13 ?_
  show V_ _ _ _ _ _ _ [_] _
  refine V_astore_n (pc := 5) dX6_read_5 rfl (by decide) rfl ?_
  show V_ _ _ _ _ _ [_, _, _, _, _] _ _
  refine V_aload_n (pc := 6) dX6_read_6 rfl rfl ?_
  refine V_ifnonnull (tgt := 13) (pc := 7) dX6_read_7 (by decide) (fun _ _ => ?_) (fun z => by cases z)
  refine V_aload_n (pc := 13) dX6_read_13 rfl rfl ?_
  refine V_geti (pc := 14) dX6_read_14 fX6_155 rfl gg_13 rfl (fun r14 => ?_)
  refine V_if_eq (tgt := 26) (pc := 17) dX6_read_17 (by decide) (by first | assumption | decide | omega | exact ba_rg hR | exact b2_rg) (fun h17 => ?_) (fun h17 => ?_)
  · skip
    have c1 := cs.mp h17
    have e : nx_read a 1 = (((rd_ 1 13 0 a).1 : Int), (rd_ 1 13 0 a).2) := by unfold nx_read; rw [if_neg (by omega), show ((1 : Int)).toNat = 1 from rfl, if_neg c1]
    rw [e] at hK
    refine V_iconst (pc := 26) dX6_read_26 ?_
    refine V_istore_n (pc := 27) dX6_read_27 rfl (by decide) rfl ?_
    show V_ _ _ _ _ _ [_, _, _, _, _] _ _
    refine V_iconst (pc := 28) dX6_read_28 ?_
    refine V_istore (pc := 29) dX6_read_29 (by decide) rfl ?_
    show V_ _ _ _ _ _ [_, _, _, _, _] _ _
    exact V_cg (lp_X6_read_13 hK 13 0 a σ (by decide) h Fm_.rf c1 rfl (by have e : uu_ a 0 0 = a 5 0 := rfl; have := hA.2.2.2.1.1; rw [e] at this; omega) (by decide)) (by simp) rfl rfl
  · skip
    have e : nx_read a 1 = fd2_ a 1 := by unfold nx_read; rw [if_neg (by omega), show ((1 : Int)).toNat = 1 from rfl, if_pos (Decidable.byContradiction (fun z => h17 (cs.mpr z)))]
    refine V_aload_n (pc := 20) dX6_read_20 rfl rfl ?_
    refine V_iconst (pc := 21) dX6_read_21 ?_
    refine V_callV (pc := 22) (as := [_]) (rest := []) dX6_read_22 ⟨kX6_159, iX6_found, by decide, by decide⟩ rc_0 rfl rfl (Nat.le_of_ble_eq_true rfl) (Nat.le_of_ble_eq_true rfl) ?_
    refine ct_X6_found (by decide) ?_
    show V_ _ _ _ _ _ _ [_] _
    refine V_ireturn (pc := 25) dX6_read_25 rfl rfl (fun hR => ?_)
    have h2 := hK _ (by rw [e]; exact h.found (by omega)) (Fm_.rf.ms (by decide))
    rw [e] at h2
    exact h2
theorem lp_X6_read_15 (hK : ∀ σ2, CR_ (rd_ 2 13 0 a).2 σ2 → Fm_ σ σ2 → post (some (vi_ ((rd_ 2 13 0 a).1 : Int))) σ2) : ∀ n c : Nat, ∀ b τ : Mm_, c ≤ 12 → CR_ b τ → Fm_ σ τ → ¬ b 11 2 = -1 → rd_ 2 n c b = rd_ 2 13 0 a → 12 - b 5 0 < (n : Int) → c + n ≤ 13 → V_ l D mX6_read (CM_ D mX6_read post) 31 [some (vr_ 0), some (vi_ 2), some (vr_ 15), some (vi_ (c : Int)), some (vi_ ((2 * c : Nat) : Int))] [] τ := by
  intro n
  induction n with
  | zero => intro c b τ hc12 h hF hl hr hn hcn; have := h.1.1.2.2.2.1.1; exact absurd hn (by have e : uu_ b 0 0 = b 5 0 := rfl; rw [e] at this; omega)
  | succ n ih =>
    intro c b τ hc12 h hF hl hr hn hcn
    have hA := h.1.1
    have hS : S1_ b τ 2 15 := h.s1 (s := 2) (by decide)
    have hz := hA.2.2.2.2.2.1 2 (by decide)
    have hL := h.1.2.2.2.1
    have hLW : 0 ≤ b 5 0 ∧ b 5 0 ≤ 12 := hA.2.2.2.1.1
    obtain ⟨q, hq⟩ := i_nat (show 0 ≤ b 5 0 from hLW.1)
    have hs7 : τ 7 2 = (q : Int) := hL.1.trans hq
    have zS := hS.2 hl
    rw [rd_] at hr
    refine V_iload (pc := 31) dX6_read_31 rfl ?_
    refine V_iconst (pc := 33) dX6_read_33 ?_
    refine V_iadd (pc := 34) dX6_read_34 ?_
    refine V_aload_n (pc := 35) dX6_read_35 rfl rfl ?_
    refine V_geti (pc := 36) dX6_read_36 fX6_163 rfl gg_15 rfl (fun r36 => ?_)
    rw [zS.2.2.1] at r36 ⊢
    refine V_icmp_ge (tgt := 110) (pc := 39) dX6_read_39 (by decide) (by constructor <;> omega) (by constructor <;> omega) (fun h39 => ?_) (fun h39 => ?_)
    · skip
      rw [if_neg (by rw [b2_f (fun z => absurd z.1 (by omega))]; decide)] at hr
      refine V_iload_n (pc := 110) dX6_read_110 rfl rfl ?_
      refine V_ireturn (pc := 111) dX6_read_111 rfl rfl (fun hR => ?_)
      have h2 := hK τ (by rw [← hr]; exact h) hF
      rw [← hr] at h2
      exact h2
    · skip
      refine V_aload_n (pc := 42) dX6_read_42 rfl rfl ?_
      refine V_getr (pc := 43) dX6_read_43 fX6_35 rfl gg_0 rfl ?_
      refine V_callV (pc := 46) (as := []) (rest := []) dX6_read_46 ⟨kX6_144, iX2_isFull, by decide, by decide⟩ rc_7 rfl rfl (Nat.le_of_ble_eq_true rfl) (Nat.le_of_ble_eq_true rfl) ?_
      refine ct_X2_isFull_7 hs7 ?_
      show V_ _ _ _ _ _ _ [_] _
      refine V_if_ne (tgt := 110) (pc := 49) dX6_read_49 (by decide) b2_rg (fun h49 => ?_) (fun h49 => ?_)
      · skip
        rw [b2_n0] at h49
        rw [if_neg (by rw [b2_f (fun z => absurd z.2.1 (by omega))]; decide)] at hr
        refine V_iload_n (pc := 110) dX6_read_110 rfl rfl ?_
        refine V_ireturn (pc := 111) dX6_read_111 rfl rfl (fun hR => ?_)
        have h2 := hK τ (by rw [← hr]; exact h) hF
        rw [← hr] at h2
        exact h2
      · skip
        rw [b2_0] at h49
        refine V_aload_n (pc := 52) dX6_read_52 rfl rfl ?_
        refine V_getr (pc := 53) dX6_read_53 fX6_164 rfl gg_15 rfl ?_
        refine V_iload (pc := 56) dX6_read_56 rfl ?_
        refine V_ialdN (pc := 58) dX6_read_58 gg_16 (by omega) (by decide) (fun r58 => ?_)
        rw [show τ 16 (2 * c) = b 15 (2 * c) from zS.2.2.2 _ (by omega)] at r58 ⊢
        refine V_aload_n (pc := 59) dX6_read_59 rfl rfl ?_
        refine V_getr (pc := 60) dX6_read_60 fX6_164 rfl gg_15 rfl ?_
        refine V_iload (pc := 63) dX6_read_63 rfl ?_
        refine V_iconst (pc := 65) dX6_read_65 ?_
        refine V_iadd (pc := 66) dX6_read_66 ?_
        refine V_iald (pc := 67) dX6_read_67 gg_16 (by have : ((60 : Nat) : Int) = 60 := rfl; omega) (by decide) (fun r67 => ?_)
        rw [show (((2 * c : Nat) : Int) + 1).toNat = 2 * c + 1 by omega, show τ 16 (2 * c + 1) = b 15 (2 * c + 1) from zS.2.2.2 _ (by omega)] at r67 ⊢
        refine V_callS (pc := 68) (as := [_, _]) (rest := []) dX6_read_68 ⟨kX6_141, sX6_isLoss, by decide, by decide⟩ rfl rfl (Nat.le_of_ble_eq_true rfl) (Nat.le_of_ble_eq_true rfl) ?_
        refine ct_X6_isLoss r58 r67 ?_
        show V_ _ _ _ _ _ _ [_] _
        refine V_if_ne (tgt := 77) (pc := 71) dX6_read_71 (by decide) b2_rg (fun h71 => ?_) (fun h71 => ?_)
        · skip
          rw [b2_n0] at h71
          rw [if_pos (b2_t ⟨by omega, by omega, h71⟩)] at hr
          refine V_aload_n (pc := 77) dX6_read_77 rfl rfl ?_
          refine V_getr (pc := 78) dX6_read_78 fX6_35 rfl gg_0 rfl ?_
          refine V_aload_n (pc := 81) dX6_read_81 rfl rfl ?_
          refine V_getr (pc := 82) dX6_read_82 fX6_164 rfl gg_15 rfl ?_
          refine V_iload (pc := 85) dX6_read_85 rfl ?_
          refine V_ialdN (pc := 87) dX6_read_87 gg_16 (by omega) (by decide) (fun r87 => ?_)
          rw [show τ 16 (2 * c) = b 15 (2 * c) from zS.2.2.2 _ (by omega)] at r87 ⊢
          refine V_aload_n (pc := 88) dX6_read_88 rfl rfl ?_
          refine V_getr (pc := 89) dX6_read_89 fX6_164 rfl gg_15 rfl ?_
          refine V_iload (pc := 92) dX6_read_92 rfl ?_
          refine V_iconst (pc := 94) dX6_read_94 ?_
          refine V_iadd (pc := 95) dX6_read_95 ?_
          refine V_iald (pc := 96) dX6_read_96 gg_16 (by have : ((60 : Nat) : Int) = 60 := rfl; omega) (by decide) (fun r96 => ?_)
          rw [show (((2 * c : Nat) : Int) + 1).toNat = 2 * c + 1 by omega, show τ 16 (2 * c + 1) = b 15 (2 * c + 1) from zS.2.2.2 _ (by omega)] at r96 ⊢
          refine V_callV (pc := 97) (as := [_, _]) (rest := []) dX6_read_97 ⟨kX6_145, iX2_append, by decide, by decide⟩ rc_7 rfl rfl (Nat.le_of_ble_eq_true rfl) (Nat.le_of_ble_eq_true rfl) ?_
          refine ct_X2_append_7 r87 r96 hs7 (by omega) ?_
          show V_ _ _ _ _ _ _ [_] _
          refine V_pop (pc := 100) dX6_read_100 rfl ?_
          refine V_iinc (pc := 101) dX6_read_101 rfl (by decide) rfl ?_
          show V_ _ _ _ _ _ [_, _, _, _, _] _ _
          refine V_iinc (pc := 104) dX6_read_104 rfl (by decide) rfl ?_
          show V_ _ _ _ _ _ [_, _, _, _, _] _ _
          refine V_goto (tgt := 31) (pc := 107) dX6_read_107 (by decide) ?_
          have hb11 : ap_ b (b 15 (2 * c)) (b 15 (2 * c + 1)) 11 = b 11 := by unfold ap_; rw [ms_rw (by decide), ms_rw (by decide), ms_rw (by decide)]
          have hb5 : ap_ b (b 15 (2 * c)) (b 15 (2 * c + 1)) 5 0 = b 5 0 + 1 := by unfold ap_; rw [ms_eq]
          exact V_cg (ih (c + 1) _ _ (by omega) (h.app h71.1 h71.2 hq (by omega)) (((hF.ms (by decide)).ms (by decide)).ms (by decide)) (by rw [hb11]; exact hl) hr (by rw [hb5]; omega) (by omega)) (by simp; omega) rfl rfl
        · skip
          rw [b2_0] at h71
          rw [if_neg (by rw [b2_f (fun z => h71 z.2.2)]; decide)] at hr
          refine V_goto (tgt := 110) (pc := 74) dX6_read_74 (by decide) ?_
          refine V_iload_n (pc := 110) dX6_read_110 rfl rfl ?_
          refine V_ireturn (pc := 111) dX6_read_111 rfl rfl (fun hR => ?_)
          have h2 := hK τ (by rw [← hr]; exact h) hF
          rw [← hr] at h2
          exact h2
theorem ct_X6_read_15 (h : CR_ a σ) (hK : ∀ σ1, CR_ (nx_read a 2).2 σ1 → Fm_ σ σ1 → post (some (vi_ (nx_read a 2).1)) σ1) : V_ l D mX6_read (CM_ D mX6_read post) 0 [some (vr_ 0), some (vi_ 2), none, none, none] [] σ := by
  have hA := h.1.1
  have hW := vv_WF hA
  have hC := h.2.1
  have hD := h.2.2
  have ws := hW.s
  have wn := hW.n
  have wl := hW.l
  have hS : S1_ a σ 2 15 := h.s1 (s := 2) (by decide)
  have hz := hA.2.2.2.2.2.1 2 (by decide)
  have hRa := hA.2.2.2.2.2.2.2
  have cs : σ 15 1 = 0 ↔ ¬ a 11 2 = -1 := ⟨fun z c => by rw [hS.1 c] at z; exact absurd z (by decide), fun c => (hS.2 c).1⟩
  refine V_aload_n (pc := 0) dX6_read_0 rfl rfl ?_
  refine V_iload_n (pc := 1) dX6_read_1 rfl rfl ?_
  refine V_callV (pc := 2) (as := [_]) (rest := []) dX6_read_2 ⟨kX6_151, iX6_sheetAt, by decide, by decide⟩ rc_0 rfl rfl (Nat.le_of_ble_eq_true rfl) (Nat.le_of_ble_eq_true rfl) ?_
  refine ct_X6_sheetAt_15 ?_
  show V_ _ _ _ _ _ _ [_] _
  refine V_astore_n (pc := 5) dX6_read_5 rfl (by decide) rfl ?_
  show V_ _ _ _ _ _ [_, _, _, _, _] _ _
  refine V_aload_n (pc := 6) dX6_read_6 rfl rfl ?_
  refine V_ifnonnull (tgt := 13) (pc := 7) dX6_read_7 (by decide) (fun _ _ => ?_) (fun z => by cases z)
  refine V_aload_n (pc := 13) dX6_read_13 rfl rfl ?_
  refine V_geti (pc := 14) dX6_read_14 fX6_155 rfl gg_15 rfl (fun r14 => ?_)
  refine V_if_eq (tgt := 26) (pc := 17) dX6_read_17 (by decide) (by first | assumption | decide | omega | exact ba_rg hR | exact b2_rg) (fun h17 => ?_) (fun h17 => ?_)
  · skip
    have c1 := cs.mp h17
    have e : nx_read a 2 = (((rd_ 2 13 0 a).1 : Int), (rd_ 2 13 0 a).2) := by unfold nx_read; rw [if_neg (by omega), show ((2 : Int)).toNat = 2 from rfl, if_neg c1]
    rw [e] at hK
    refine V_iconst (pc := 26) dX6_read_26 ?_
    refine V_istore_n (pc := 27) dX6_read_27 rfl (by decide) rfl ?_
    show V_ _ _ _ _ _ [_, _, _, _, _] _ _
    refine V_iconst (pc := 28) dX6_read_28 ?_
    refine V_istore (pc := 29) dX6_read_29 (by decide) rfl ?_
    show V_ _ _ _ _ _ [_, _, _, _, _] _ _
    exact V_cg (lp_X6_read_15 hK 13 0 a σ (by decide) h Fm_.rf c1 rfl (by have e : uu_ a 0 0 = a 5 0 := rfl; have := hA.2.2.2.1.1; rw [e] at this; omega) (by decide)) (by simp) rfl rfl
  · skip
    have e : nx_read a 2 = fd2_ a 1 := by unfold nx_read; rw [if_neg (by omega), show ((2 : Int)).toNat = 2 from rfl, if_pos (Decidable.byContradiction (fun z => h17 (cs.mpr z)))]
    refine V_aload_n (pc := 20) dX6_read_20 rfl rfl ?_
    refine V_iconst (pc := 21) dX6_read_21 ?_
    refine V_callV (pc := 22) (as := [_]) (rest := []) dX6_read_22 ⟨kX6_159, iX6_found, by decide, by decide⟩ rc_0 rfl rfl (Nat.le_of_ble_eq_true rfl) (Nat.le_of_ble_eq_true rfl) ?_
    refine ct_X6_found (by decide) ?_
    show V_ _ _ _ _ _ _ [_] _
    refine V_ireturn (pc := 25) dX6_read_25 rfl rfl (fun hR => ?_)
    have h2 := hK _ (by rw [e]; exact h.found (by omega)) (Fm_.rf.ms (by decide))
    rw [e] at h2
    exact h2
theorem lp_X6_read_17 (hK : ∀ σ2, CR_ (rd_ 3 13 0 a).2 σ2 → Fm_ σ σ2 → post (some (vi_ ((rd_ 3 13 0 a).1 : Int))) σ2) : ∀ n c : Nat, ∀ b τ : Mm_, c ≤ 12 → CR_ b τ → Fm_ σ τ → ¬ b 11 3 = -1 → rd_ 3 n c b = rd_ 3 13 0 a → 12 - b 5 0 < (n : Int) → c + n ≤ 13 → V_ l D mX6_read (CM_ D mX6_read post) 31 [some (vr_ 0), some (vi_ 3), some (vr_ 17), some (vi_ (c : Int)), some (vi_ ((2 * c : Nat) : Int))] [] τ := by
  intro n
  induction n with
  | zero => intro c b τ hc12 h hF hl hr hn hcn; have := h.1.1.2.2.2.1.1; exact absurd hn (by have e : uu_ b 0 0 = b 5 0 := rfl; rw [e] at this; omega)
  | succ n ih =>
    intro c b τ hc12 h hF hl hr hn hcn
    have hA := h.1.1
    have hS : S1_ b τ 3 17 := h.s1 (s := 3) (by decide)
    have hz := hA.2.2.2.2.2.1 3 (by decide)
    have hL := h.1.2.2.2.1
    have hLW : 0 ≤ b 5 0 ∧ b 5 0 ≤ 12 := hA.2.2.2.1.1
    obtain ⟨q, hq⟩ := i_nat (show 0 ≤ b 5 0 from hLW.1)
    have hs7 : τ 7 2 = (q : Int) := hL.1.trans hq
    have zS := hS.2 hl
    rw [rd_] at hr
    refine V_iload (pc := 31) dX6_read_31 rfl ?_
    refine V_iconst (pc := 33) dX6_read_33 ?_
    refine V_iadd (pc := 34) dX6_read_34 ?_
    refine V_aload_n (pc := 35) dX6_read_35 rfl rfl ?_
    refine V_geti (pc := 36) dX6_read_36 fX6_163 rfl gg_17 rfl (fun r36 => ?_)
    rw [zS.2.2.1] at r36 ⊢
    refine V_icmp_ge (tgt := 110) (pc := 39) dX6_read_39 (by decide) (by constructor <;> omega) (by constructor <;> omega) (fun h39 => ?_) (fun h39 => ?_)
    · skip
      rw [if_neg (by rw [b2_f (fun z => absurd z.1 (by omega))]; decide)] at hr
      refine V_iload_n (pc := 110) dX6_read_110 rfl rfl ?_
      refine V_ireturn (pc := 111) dX6_read_111 rfl rfl (fun hR => ?_)
      have h2 := hK τ (by rw [← hr]; exact h) hF
      rw [← hr] at h2
      exact h2
    · skip
      refine V_aload_n (pc := 42) dX6_read_42 rfl rfl ?_
      refine V_getr (pc := 43) dX6_read_43 fX6_35 rfl gg_0 rfl ?_
      refine V_callV (pc := 46) (as := []) (rest := []) dX6_read_46 ⟨kX6_144, iX2_isFull, by decide, by decide⟩ rc_7 rfl rfl (Nat.le_of_ble_eq_true rfl) (Nat.le_of_ble_eq_true rfl) ?_
      refine ct_X2_isFull_7 hs7 ?_
      show V_ _ _ _ _ _ _ [_] _
      refine V_if_ne (tgt := 110) (pc := 49) dX6_read_49 (by decide) b2_rg (fun h49 => ?_) (fun h49 => ?_)
      · skip
        rw [b2_n0] at h49
        rw [if_neg (by rw [b2_f (fun z => absurd z.2.1 (by omega))]; decide)] at hr
        refine V_iload_n (pc := 110) dX6_read_110 rfl rfl ?_
        refine V_ireturn (pc := 111) dX6_read_111 rfl rfl (fun hR => ?_)
        have h2 := hK τ (by rw [← hr]; exact h) hF
        rw [← hr] at h2
        exact h2
      · skip
        rw [b2_0] at h49
        refine V_aload_n (pc := 52) dX6_read_52 rfl rfl ?_
        refine V_getr (pc := 53) dX6_read_53 fX6_164 rfl gg_17 rfl ?_
        refine V_iload (pc := 56) dX6_read_56 rfl ?_
        refine V_ialdN (pc := 58) dX6_read_58 gg_18 (by omega) (by decide) (fun r58 => ?_)
        rw [show τ 18 (2 * c) = b 16 (2 * c) from zS.2.2.2 _ (by omega)] at r58 ⊢
        refine V_aload_n (pc := 59) dX6_read_59 rfl rfl ?_
        refine V_getr (pc := 60) dX6_read_60 fX6_164 rfl gg_17 rfl ?_
        refine V_iload (pc := 63) dX6_read_63 rfl ?_
        refine V_iconst (pc := 65) dX6_read_65 ?_
        refine V_iadd (pc := 66) dX6_read_66 ?_
        refine V_iald (pc := 67) dX6_read_67 gg_18 (by have : ((60 : Nat) : Int) = 60 := rfl; omega) (by decide) (fun r67 => ?_)
        rw [show (((2 * c : Nat) : Int) + 1).toNat = 2 * c + 1 by omega, show τ 18 (2 * c + 1) = b 16 (2 * c + 1) from zS.2.2.2 _ (by omega)] at r67 ⊢
        refine V_callS (pc := 68) (as := [_, _]) (rest := []) dX6_read_68 ⟨kX6_141, sX6_isLoss, by decide, by decide⟩ rfl rfl (Nat.le_of_ble_eq_true rfl) (Nat.le_of_ble_eq_true rfl) ?_
        refine ct_X6_isLoss r58 r67 ?_
        show V_ _ _ _ _ _ _ [_] _
        refine V_if_ne (tgt := 77) (pc := 71) dX6_read_71 (by decide) b2_rg (fun h71 => ?_) (fun h71 => ?_)
        · skip
          rw [b2_n0] at h71
          rw [if_pos (b2_t ⟨by omega, by omega, h71⟩)] at hr
          refine V_aload_n (pc := 77) dX6_read_77 rfl rfl ?_
          refine V_getr (pc := 78) dX6_read_78 fX6_35 rfl gg_0 rfl ?_
          refine V_aload_n (pc := 81) dX6_read_81 rfl rfl ?_
          refine V_getr (pc := 82) dX6_read_82 fX6_164 rfl gg_17 rfl ?_
          refine V_iload (pc := 85) dX6_read_85 rfl ?_
          refine V_ialdN (pc := 87) dX6_read_87 gg_18 (by omega) (by decide) (fun r87 => ?_)
          rw [show τ 18 (2 * c) = b 16 (2 * c) from zS.2.2.2 _ (by omega)] at r87 ⊢
          refine V_aload_n (pc := 88) dX6_read_88 rfl rfl ?_
          refine V_getr (pc := 89) dX6_read_89 fX6_164 rfl gg_17 rfl ?_
          refine V_iload (pc := 92) dX6_read_92 rfl ?_
          refine V_iconst (pc := 94) dX6_read_94 ?_
          refine V_iadd (pc := 95) dX6_read_95 ?_
          refine V_iald (pc := 96) dX6_read_96 gg_18 (by have : ((60 : Nat) : Int) = 60 := rfl; omega) (by decide) (fun r96 => ?_)
          rw [show (((2 * c : Nat) : Int) + 1).toNat = 2 * c + 1 by omega, show τ 18 (2 * c + 1) = b 16 (2 * c + 1) from zS.2.2.2 _ (by omega)] at r96 ⊢
          refine V_callV (pc := 97) (as := [_, _]) (rest := []) dX6_read_97 ⟨kX6_145, iX2_append, by decide, by decide⟩ rc_7 rfl rfl (Nat.le_of_ble_eq_true rfl) (Nat.le_of_ble_eq_true rfl) ?_
          refine ct_X2_append_7 r87 r96 hs7 (by omega) ?_
          show V_ _ _ _ _ _ _ [_] _
          refine V_pop (pc := 100) dX6_read_100 rfl ?_
          refine V_iinc (pc := 101) dX6_read_101 rfl (by decide) rfl ?_
          show V_ _ _ _ _ _ [_, _, _, _, _] _ _
          refine V_iinc (pc := 104) dX6_read_104 rfl (by decide) rfl ?_
          show V_ _ _ _ _ _ [_, _, _, _, _] _ _
          refine V_goto (tgt := 31) (pc := 107) dX6_read_107 (by decide) ?_
          have hb11 : ap_ b (b 16 (2 * c)) (b 16 (2 * c + 1)) 11 = b 11 := by unfold ap_; rw [ms_rw (by decide), ms_rw (by decide), ms_rw (by decide)]
          have hb5 : ap_ b (b 16 (2 * c)) (b 16 (2 * c + 1)) 5 0 = b 5 0 + 1 := by unfold ap_; rw [ms_eq]
          exact V_cg (ih (c + 1) _ _ (by omega) (h.app h71.1 h71.2 hq (by omega)) (((hF.ms (by decide)).ms (by decide)).ms (by decide)) (by rw [hb11]; exact hl) hr (by rw [hb5]; omega) (by omega)) (by simp; omega) rfl rfl
        · skip
          rw [b2_0] at h71
          rw [if_neg (by rw [b2_f (fun z => h71 z.2.2)]; decide)] at hr
          refine V_goto (tgt := 110) (pc := 74) dX6_read_74 (by decide) ?_
          refine V_iload_n (pc := 110) dX6_read_110 rfl rfl ?_
          refine V_ireturn (pc := 111) dX6_read_111 rfl rfl (fun hR => ?_)
          have h2 := hK τ (by rw [← hr]; exact h) hF
          rw [← hr] at h2
          exact h2
theorem ct_X6_read_17 (h : CR_ a σ) (hK : ∀ σ1, CR_ (nx_read a 3).2 σ1 → Fm_ σ σ1 → post (some (vi_ (nx_read a 3).1)) σ1) : V_ l D mX6_read (CM_ D mX6_read post) 0 [some (vr_ 0), some (vi_ 3), none, none, none] [] σ := by
  have hA := h.1.1
  have hW := vv_WF hA
  have hC := h.2.1
  have hD := h.2.2
  have ws := hW.s
  have wn := hW.n
  have wl := hW.l
  have hS : S1_ a σ 3 17 := h.s1 (s := 3) (by decide)
  have hz := hA.2.2.2.2.2.1 3 (by decide)
  have hRa := hA.2.2.2.2.2.2.2
  have cs : σ 17 1 = 0 ↔ ¬ a 11 3 = -1 := ⟨fun z c => by rw [hS.1 c] at z; exact absurd z (by decide), fun c => (hS.2 c).1⟩
  refine V_aload_n (pc := 0) dX6_read_0 rfl rfl ?_
  refine V_iload_n (pc := 1) dX6_read_1 rfl rfl ?_
  refine V_callV (pc := 2) (as := [_]) (rest := []) dX6_read_2 ⟨kX6_151, iX6_sheetAt, by decide, by decide⟩ rc_0 rfl rfl (Nat.le_of_ble_eq_true rfl) (Nat.le_of_ble_eq_true rfl) ?_
  refine ct_X6_sheetAt_17 ?_
  show V_ _ _ _ _ _ _ [_] _
  refine V_astore_n (pc := 5) dX6_read_5 rfl (by decide) rfl ?_
  show V_ _ _ _ _ _ [_, _, _, _, _] _ _
  refine V_aload_n (pc := 6) dX6_read_6 rfl rfl ?_
  refine V_ifnonnull (tgt := 13) (pc := 7) dX6_read_7 (by decide) (fun _ _ => ?_) (fun z => by cases z)
  refine V_aload_n (pc := 13) dX6_read_13 rfl rfl ?_
  refine V_geti (pc := 14) dX6_read_14 fX6_155 rfl gg_17 rfl (fun r14 => ?_)
  refine V_if_eq (tgt := 26) (pc := 17) dX6_read_17 (by decide) (by first | assumption | decide | omega | exact ba_rg hR | exact b2_rg) (fun h17 => ?_) (fun h17 => ?_)
  · skip
    have c1 := cs.mp h17
    have e : nx_read a 3 = (((rd_ 3 13 0 a).1 : Int), (rd_ 3 13 0 a).2) := by unfold nx_read; rw [if_neg (by omega), show ((3 : Int)).toNat = 3 from rfl, if_neg c1]
    rw [e] at hK
    refine V_iconst (pc := 26) dX6_read_26 ?_
    refine V_istore_n (pc := 27) dX6_read_27 rfl (by decide) rfl ?_
    show V_ _ _ _ _ _ [_, _, _, _, _] _ _
    refine V_iconst (pc := 28) dX6_read_28 ?_
    refine V_istore (pc := 29) dX6_read_29 (by decide) rfl ?_
    show V_ _ _ _ _ _ [_, _, _, _, _] _ _
    exact V_cg (lp_X6_read_17 hK 13 0 a σ (by decide) h Fm_.rf c1 rfl (by have e : uu_ a 0 0 = a 5 0 := rfl; have := hA.2.2.2.1.1; rw [e] at this; omega) (by decide)) (by simp) rfl rfl
  · skip
    have e : nx_read a 3 = fd2_ a 1 := by unfold nx_read; rw [if_neg (by omega), show ((3 : Int)).toNat = 3 from rfl, if_pos (Decidable.byContradiction (fun z => h17 (cs.mpr z)))]
    refine V_aload_n (pc := 20) dX6_read_20 rfl rfl ?_
    refine V_iconst (pc := 21) dX6_read_21 ?_
    refine V_callV (pc := 22) (as := [_]) (rest := []) dX6_read_22 ⟨kX6_159, iX6_found, by decide, by decide⟩ rc_0 rfl rfl (Nat.le_of_ble_eq_true rfl) (Nat.le_of_ble_eq_true rfl) ?_
    refine ct_X6_found (by decide) ?_
    show V_ _ _ _ _ _ _ [_] _
    refine V_ireturn (pc := 25) dX6_read_25 rfl rfl (fun hR => ?_)
    have h2 := hK _ (by rw [e]; exact h.found (by omega)) (Fm_.rf.ms (by decide))
    rw [e] at h2
    exact h2
theorem ct_X6_read {s : Int} (hs : Rg_ s) (h : CR_ a σ) (hK : ∀ σ1, CR_ (nx_read a s).2 σ1 → Fm_ σ σ1 → post (some (vi_ (nx_read a s).1)) σ1) : V_ l D mX6_read (CM_ D mX6_read post) 0 [some (vr_ 0), some (vi_ s), none, none, none] [] σ := by
  by_cases c0 : s = 0
  · subst c0; exact ct_X6_read_11 h hK
  by_cases c1 : s = 1
  · subst c1; exact ct_X6_read_13 h hK
  by_cases c2 : s = 2
  · subst c2; exact ct_X6_read_15 h hK
  by_cases c3 : s = 3
  · subst c3; exact ct_X6_read_17 h hK
  have e : nx_read a s = (-2, a) := if_pos (by omega)
  refine V_aload_n (pc := 0) dX6_read_0 rfl rfl ?_
  refine V_iload_n (pc := 1) dX6_read_1 rfl rfl ?_
  refine V_callV (pc := 2) (as := [_]) (rest := []) dX6_read_2 ⟨kX6_151, iX6_sheetAt, by decide, by decide⟩ rc_0 rfl rfl (Nat.le_of_ble_eq_true rfl) (Nat.le_of_ble_eq_true rfl) ?_
  refine ct_X6_sheetAt_n hs (by omega) ?_
  show V_ _ _ _ _ _ _ [_] _
  refine V_astore_n (pc := 5) dX6_read_5 rfl (by decide) rfl ?_
  show V_ _ _ _ _ _ [_, _, _, _, _] _ _
  refine V_aload_n (pc := 6) dX6_read_6 rfl rfl ?_
  refine V_ifnonnull (tgt := 13) (pc := 7) dX6_read_7 (by decide) (fun _ z => by cases z) (fun _ => ?_)
  refine V_bipush (pc := 10) dX6_read_10 (by decide) ?_
  refine V_ireturn (pc := 12) dX6_read_12 rfl rfl (fun hR => ?_)
  have h2 := hK σ (by rw [e]; exact h) Fm_.rf
  rw [e] at h2
  exact h2
end
