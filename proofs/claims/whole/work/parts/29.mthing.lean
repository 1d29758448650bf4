/-! ## class DrownedNamesModel: reading things -/
section
variable {l : Launch} {D : Dt_} {σ : Mm_} {post : Option Av_ → Mm_ → Prop}
theorem ct_X7_readsShip {L : Int} {b : Nat → Int} {m : Nat} (hT : MT_ 0 L b σ) (hL : 0 ≤ L ∧ L ≤ 23) (hq : σ 38 7 = ((m * 4 : Nat) : Int)) (hm : σ 45 0 = (m : Int)) (hm2 : m < 6) (hR : RM_ σ)
    (hno : ∀ p, p < 3 → (∀ j, j < p → ok_ 0 L b (m * 4 + j) = true) → ok_ 0 L b (m * 4 + p) = false → post (some (vi_ 0)) (ms_ σ 38 7 ((m * 4 + p : Nat) : Int)))
    (hok : (∀ p, p < 3 → ok_ 0 L b (m * 4 + p) = true) → post (some (vi_ 1)) (ms_ (ms_ (ms_ σ 38 7 ((m * 4 + 3 : Nat) : Int)) 46 (2 * m) (fg_ L b ((m * 4 : Nat) : Int))) 46 (2 * m + 1) (ba_ L b ((m * 4 + 2 : Nat) : Int) - 48))) : V_ l D mX7_readsShip (CM_ D mX7_readsShip post) 0 [some (vr_ 38), none, none, none] [] σ := by
  refine V_iconst (pc := 0) dX7_readsShip_0 ?_
  refine V_aload_n (pc := 1) dX7_readsShip_1 rfl rfl ?_
  refine V_getr (pc := 2) dX7_readsShip_2 fX7_28 rfl gg_38 rfl ?_
  refine V_iconst (pc := 5) dX7_readsShip_5 ?_
  refine V_iald (pc := 6) dX7_readsShip_6 gg_45 (by decide) (by decide) (fun r6 => ?_)
  rw [show σ 45 (0 : Int).toNat = (m : Int) from hm] at r6 ⊢
  refine V_imul (pc := 7) dX7_readsShip_7 ?_
  refine V_istore_n (pc := 8) dX7_readsShip_8 rfl (by decide) rfl ?_
  show V_ _ _ _ _ _ [_, _, _, _] _ _
  refine V_aload_n (pc := 9) dX7_readsShip_9 rfl rfl ?_
  refine V_iconst (pc := 10) dX7_readsShip_10 ?_
  refine V_iconst (pc := 11) dX7_readsShip_11 ?_
  refine V_callV (pc := 12) (as := [_, _]) (rest := []) dX7_readsShip_12 ⟨kX7_103, iX7_twoFigures, by decide, by decide⟩ rc_38 rfl rfl (Nat.le_of_ble_eq_true rfl) (Nat.le_of_ble_eq_true rfl) ?_
  refine ct_X7_twoFigures_0 (q := m * 4) hT hL hq (by omega) (by decide) (fun y0 y1 => ?_) (fun y0 y1 z hz => ?_) (fun y0 => ?_)
  · show V_ _ _ _ _ _ _ [_] _
    have o0 : ok_ 0 L b (m * 4) = true := ox_0_0.mpr (y0)
    have o1 : ok_ 0 L b (m * 4 + 1) = true := ox_0_1.mpr (by (repeat' split at y1) <;> omega)
    have hfg : 0 ≤ fg_ L b ((m * 4 : Nat) : Int) ∧ fg_ L b ((m * 4 : Nat) : Int) ≤ 99 := by
      have e : ((m * 4 + 1 : Nat) : Int) = ((m * 4 : Nat) : Int) + 1 := by omega
      rw [e] at y1
      unfold fg_
      (repeat' split at y1) <;> omega
    refine V_istore_n (pc := 15) dX7_readsShip_15 rfl (by decide) rfl ?_
    show V_ _ _ _ _ _ [_, _, _, _] _ _
    refine V_iload_n (pc := 16) dX7_readsShip_16 rfl rfl ?_
    refine V_if_ge (tgt := 22) (pc := 17) dX7_readsShip_17 (by decide) (by constructor <;> omega) (fun h17 => ?_) (fun h17 => by omega)
    refine V_aload_n (pc := 22) dX7_readsShip_22 rfl rfl ?_
    refine V_iconst (pc := 23) dX7_readsShip_23 ?_
    refine V_bipush (pc := 24) dX7_readsShip_24 (by decide) ?_
    refine V_bipush (pc := 26) dX7_readsShip_26 (by decide) ?_
    refine V_callV (pc := 28) (as := [_, _, _]) (rest := []) dX7_readsShip_28 ⟨kX7_97, iX7_passes, by decide, by decide⟩ rc_38 rfl rfl (Nat.le_of_ble_eq_true rfl) (Nat.le_of_ble_eq_true rfl) ?_
    refine ct_X7_passes_0 (q := m * 4 + 2) (hT.ms (by decide) (by decide)) hL ms_eq (by omega) (by decide) (by decide) (fun y2 => ?_) (fun y2 => ?_)
    · show V_ _ _ _ _ _ _ [_] _
      have o2 : ok_ 0 L b (m * 4 + 2) = true := ox_0_2.mpr (y2)
      refine V_istore_n (pc := 31) dX7_readsShip_31 rfl (by decide) rfl ?_
      show V_ _ _ _ _ _ [_, _, _, _] _ _
      refine V_iload_n (pc := 32) dX7_readsShip_32 rfl rfl ?_
      refine V_bipush (pc := 33) dX7_readsShip_33 (by decide) ?_
      refine V_icmp_ne (tgt := 40) (pc := 35) dX7_readsShip_35 (by decide) (by constructor <;> omega) (by constructor <;> omega) (fun h35 => ?_) (fun h35 => by omega)
      refine V_aload_n (pc := 40) dX7_readsShip_40 rfl rfl ?_
      refine V_getr (pc := 41) dX7_readsShip_41 fX7_31 rfl gg_38 rfl ?_
      refine V_iload_n (pc := 44) dX7_readsShip_44 rfl rfl ?_
      refine V_iload_n (pc := 45) dX7_readsShip_45 rfl rfl ?_
      refine V_iast (pc := 46) dX7_readsShip_46 gg_46 (by omega) (by decide) (by constructor <;> omega) ?_
      rw [show (2 * (m : Int)).toNat = 2 * m by omega]
      refine V_aload_n (pc := 47) dX7_readsShip_47 rfl rfl ?_
      refine V_getr (pc := 48) dX7_readsShip_48 fX7_31 rfl gg_38 rfl ?_
      refine V_iload_n (pc := 51) dX7_readsShip_51 rfl rfl ?_
      refine V_iconst (pc := 52) dX7_readsShip_52 ?_
      refine V_iadd (pc := 53) dX7_readsShip_53 ?_
      refine V_iload_n (pc := 54) dX7_readsShip_54 rfl rfl ?_
      refine V_iast (pc := 55) dX7_readsShip_55 gg_46 (by omega) (by decide) (by constructor <;> omega) ?_
      rw [show (2 * (m : Int) + 1).toNat = 2 * m + 1 by omega]
      refine V_iconst (pc := 56) dX7_readsShip_56 ?_
      refine V_ireturn (pc := 57) dX7_readsShip_57 rfl rfl (fun hR => ?_)
      have h2 := hok (fun p hp => by
        match p, hp with
        | 0, _ => exact o0
        | 1, _ => exact o1
        | 2, _ => exact o2)
      rw [ms_ms, show (((m * 4 + 2 : Nat) : Int) + 1) = ((m * 4 + 3 : Nat) : Int) by omega]
      exact h2
    · show V_ _ _ _ _ _ _ [_] _
      have n2 : ok_ 0 L b (m * 4 + 2) = false := by
        cases hc : ok_ 0 L b (m * 4 + 2) with
        | false => rfl
        | true => have := ox_0_2.mp hc; exact absurd this (y2)
      refine V_istore_n (pc := 31) dX7_readsShip_31 rfl (by decide) rfl ?_
      show V_ _ _ _ _ _ [_, _, _, _] _ _
      refine V_iload_n (pc := 32) dX7_readsShip_32 rfl rfl ?_
      refine V_bipush (pc := 33) dX7_readsShip_33 (by decide) ?_
      refine V_icmp_ne (tgt := 40) (pc := 35) dX7_readsShip_35 (by decide) (by constructor <;> omega) (by constructor <;> omega) (fun h35 => by omega) (fun h35 => ?_)
      refine V_iconst (pc := 38) dX7_readsShip_38 ?_
      refine V_ireturn (pc := 39) dX7_readsShip_39 rfl rfl (fun hR => ?_)
      have h2 := hno 2 (by decide) (fun j hj => by
        match j, hj with
        | 0, _ => exact o0
        | 1, _ => exact o1
        | j + 2, hj => exact absurd hj (by omega)) n2
      exact h2
  · show V_ _ _ _ _ _ _ [_] _
    have o0 : ok_ 0 L b (m * 4) = true := ox_0_0.mpr (y0)
    have n1 : ok_ 0 L b (m * 4 + 1) = false := by
      cases hc : ok_ 0 L b (m * 4 + 1) with
      | false => rfl
      | true => have := ox_0_1.mp hc; exact absurd this (by (repeat' split at y1) <;> omega)
    refine V_istore_n (pc := 15) dX7_readsShip_15 rfl (by decide) rfl ?_
    show V_ _ _ _ _ _ [_, _, _, _] _ _
    refine V_iload_n (pc := 16) dX7_readsShip_16 rfl rfl ?_
    refine V_if_ge (tgt := 22) (pc := 17) dX7_readsShip_17 (by decide) (by constructor <;> omega) (fun h17 => by omega) (fun h17 => ?_)
    refine V_iconst (pc := 20) dX7_readsShip_20 ?_
    refine V_ireturn (pc := 21) dX7_readsShip_21 rfl rfl (fun hR => ?_)
    have h2 := hno 1 (by decide) (fun j hj => by
      match j, hj with
      | 0, _ => exact o0
      | j + 1, hj => exact absurd hj (by omega)) n1
    exact h2
  · show V_ _ _ _ _ _ _ [_] _
    have n0 : ok_ 0 L b (m * 4) = false := by
      cases hc : ok_ 0 L b (m * 4) with
      | false => rfl
      | true => have := ox_0_0.mp hc; exact absurd this (y0)
    refine V_istore_n (pc := 15) dX7_readsShip_15 rfl (by decide) rfl ?_
    show V_ _ _ _ _ _ [_, _, _, _] _ _
    refine V_iload_n (pc := 16) dX7_readsShip_16 rfl rfl ?_
    refine V_if_ge (tgt := 22) (pc := 17) dX7_readsShip_17 (by decide) (by constructor <;> omega) (fun h17 => by omega) (fun h17 => ?_)
    refine V_iconst (pc := 20) dX7_readsShip_20 ?_
    refine V_ireturn (pc := 21) dX7_readsShip_21 rfl rfl (fun hR => ?_)
    rw [← ms_id hq]
    have h2 := hno 0 (by decide) (fun j hj => absurd hj (Nat.not_lt_zero _)) n0
    exact h2
theorem ct_X7_readsLine {L : Int} {b : Nat → Int} {m : Nat} (hT : MT_ 2 L b σ) (hL : 0 ≤ L ∧ L ≤ 59) (hq : σ 38 7 = ((m * 5 : Nat) : Int)) (hm : σ 45 2 = (m : Int)) (hm2 : m < 12) (hR : RM_ σ)
    (hno : ∀ p, p < 4 → (∀ j, j < p → ok_ 2 L b (m * 5 + j) = true) → ok_ 2 L b (m * 5 + p) = false → post (some (vi_ 0)) (ms_ σ 38 7 ((m * 5 + p : Nat) : Int)))
    (hok : (∀ p, p < 4 → ok_ 2 L b (m * 5 + p) = true) → post (some (vi_ 1)) (ms_ (ms_ (ms_ (ms_ σ 38 7 ((m * 5 + 4 : Nat) : Int)) 48 (3 * m) (ba_ L b ((m * 5 : Nat) : Int) - 48)) 48 (3 * m + 1) (ba_ L b ((m * 5 + 1 : Nat) : Int) - 97)) 48 (3 * m + 2) (fg_ L b ((m * 5 + 2 : Nat) : Int)))) : V_ l D mX7_readsLine (CM_ D mX7_readsLine post) 0 [some (vr_ 38), none, none, none, none] [] σ := by
  refine V_iconst (pc := 0) dX7_readsLine_0 ?_
  refine V_aload_n (pc := 1) dX7_readsLine_1 rfl rfl ?_
  refine V_getr (pc := 2) dX7_readsLine_2 fX7_28 rfl gg_38 rfl ?_
  refine V_iconst (pc := 5) dX7_readsLine_5 ?_
  refine V_iald (pc := 6) dX7_readsLine_6 gg_45 (by decide) (by decide) (fun r6 => ?_)
  rw [show σ 45 (2 : Int).toNat = (m : Int) from hm] at r6 ⊢
  refine V_imul (pc := 7) dX7_readsLine_7 ?_
  refine V_istore_n (pc := 8) dX7_readsLine_8 rfl (by decide) rfl ?_
  show V_ _ _ _ _ _ [_, _, _, _, _] _ _
  refine V_aload_n (pc := 9) dX7_readsLine_9 rfl rfl ?_
  refine V_iconst (pc := 10) dX7_readsLine_10 ?_
  refine V_bipush (pc := 11) dX7_readsLine_11 (by decide) ?_
  refine V_bipush (pc := 13) dX7_readsLine_13 (by decide) ?_
  refine V_callV (pc := 15) (as := [_, _, _]) (rest := []) dX7_readsLine_15 ⟨kX7_97, iX7_passes, by decide, by decide⟩ rc_38 rfl rfl (Nat.le_of_ble_eq_true rfl) (Nat.le_of_ble_eq_true rfl) ?_
  refine ct_X7_passes_2 (q := m * 5) hT hL hq (by omega) (by decide) (by decide) (fun y0 => ?_) (fun y0 => ?_)
  · show V_ _ _ _ _ _ _ [_] _
    have o0 : ok_ 2 L b (m * 5) = true := ox_2_0.mpr (y0)
    refine V_istore_n (pc := 18) dX7_readsLine_18 rfl (by decide) rfl ?_
    show V_ _ _ _ _ _ [_, _, _, _, _] _ _
    refine V_iload_n (pc := 19) dX7_readsLine_19 rfl rfl ?_
    refine V_bipush (pc := 20) dX7_readsLine_20 (by decide) ?_
    refine V_icmp_ne (tgt := 27) (pc := 22) dX7_readsLine_22 (by decide) (by constructor <;> omega) (by constructor <;> omega) (fun h22 => ?_) (fun h22 => by omega)
    refine V_aload_n (pc := 27) dX7_readsLine_27 rfl rfl ?_
    refine V_iconst (pc := 28) dX7_readsLine_28 ?_
    refine V_bipush (pc := 29) dX7_readsLine_29 (by decide) ?_
    refine V_bipush (pc := 31) dX7_readsLine_31 (by decide) ?_
    refine V_callV (pc := 33) (as := [_, _, _]) (rest := []) dX7_readsLine_33 ⟨kX7_97, iX7_passes, by decide, by decide⟩ rc_38 rfl rfl (Nat.le_of_ble_eq_true rfl) (Nat.le_of_ble_eq_true rfl) ?_
    refine ct_X7_passes_2 (q := m * 5 + 1) (hT.ms (by decide) (by decide)) hL (by rw [ms_eq]; omega) (by omega) (by decide) (by decide) (fun y1 => ?_) (fun y1 => ?_)
    · show V_ _ _ _ _ _ _ [_] _
      have o1 : ok_ 2 L b (m * 5 + 1) = true := ox_2_1.mpr (y1)
      refine V_istore_n (pc := 36) dX7_readsLine_36 rfl (by decide) rfl ?_
      show V_ _ _ _ _ _ [_, _, _, _, _] _ _
      refine V_iload_n (pc := 37) dX7_readsLine_37 rfl rfl ?_
      refine V_bipush (pc := 38) dX7_readsLine_38 (by decide) ?_
      refine V_icmp_ne (tgt := 45) (pc := 40) dX7_readsLine_40 (by decide) (by constructor <;> omega) (by constructor <;> omega) (fun h40 => ?_) (fun h40 => by omega)
      refine V_aload_n (pc := 45) dX7_readsLine_45 rfl rfl ?_
      refine V_iconst (pc := 46) dX7_readsLine_46 ?_
      refine V_iconst (pc := 47) dX7_readsLine_47 ?_
      refine V_callV (pc := 48) (as := [_, _]) (rest := []) dX7_readsLine_48 ⟨kX7_103, iX7_twoFigures, by decide, by decide⟩ rc_38 rfl rfl (Nat.le_of_ble_eq_true rfl) (Nat.le_of_ble_eq_true rfl) ?_
      refine ct_X7_twoFigures_2 (q := m * 5 + 2) ((hT.ms (by decide) (by decide)).ms (by decide) (by decide)) hL (by rw [ms_eq]; omega) (by omega) (by decide) (fun y2 y3 => ?_) (fun y2 y3 z hz => ?_) (fun y2 => ?_)
      · show V_ _ _ _ _ _ _ [_] _
        rw [show m * 5 + 2 + 1 = m * 5 + 3 from rfl] at y3
        have o2 : ok_ 2 L b (m * 5 + 2) = true := ox_2_2.mpr (y2)
        have o3 : ok_ 2 L b (m * 5 + 3) = true := ox_2_3.mpr (by (repeat' split at y3) <;> omega)
        have hfg : 0 ≤ fg_ L b ((m * 5 + 2 : Nat) : Int) ∧ fg_ L b ((m * 5 + 2 : Nat) : Int) ≤ 99 := by
          have e : ((m * 5 + 3 : Nat) : Int) = ((m * 5 + 2 : Nat) : Int) + 1 := by omega
          rw [e] at y3
          unfold fg_
          (repeat' split at y3) <;> omega
        refine V_istore (pc := 51) dX7_readsLine_51 (by decide) rfl ?_
        show V_ _ _ _ _ _ [_, _, _, _, _] _ _
        refine V_iload (pc := 53) dX7_readsLine_53 rfl ?_
        refine V_if_ge (tgt := 60) (pc := 55) dX7_readsLine_55 (by decide) (by constructor <;> omega) (fun h55 => ?_) (fun h55 => by omega)
        refine V_aload_n (pc := 60) dX7_readsLine_60 rfl rfl ?_
        refine V_getr (pc := 61) dX7_readsLine_61 fX7_37 rfl gg_38 rfl ?_
        refine V_iload_n (pc := 64) dX7_readsLine_64 rfl rfl ?_
        refine V_iload_n (pc := 65) dX7_readsLine_65 rfl rfl ?_
        refine V_iast (pc := 66) dX7_readsLine_66 gg_48 (by omega) (by decide) (by constructor <;> omega) ?_
        rw [show (3 * (m : Int)).toNat = 3 * m by omega]
        refine V_aload_n (pc := 67) dX7_readsLine_67 rfl rfl ?_
        refine V_getr (pc := 68) dX7_readsLine_68 fX7_37 rfl gg_38 rfl ?_
        refine V_iload_n (pc := 71) dX7_readsLine_71 rfl rfl ?_
        refine V_iconst (pc := 72) dX7_readsLine_72 ?_
        refine V_iadd (pc := 73) dX7_readsLine_73 ?_
        refine V_iload_n (pc := 74) dX7_readsLine_74 rfl rfl ?_
        refine V_iast (pc := 75) dX7_readsLine_75 gg_48 (by omega) (by decide) (by constructor <;> omega) ?_
        rw [show (3 * (m : Int) + 1).toNat = 3 * m + 1 by omega]
        refine V_aload_n (pc := 76) dX7_readsLine_76 rfl rfl ?_
        refine V_getr (pc := 77) dX7_readsLine_77 fX7_37 rfl gg_38 rfl ?_
        refine V_iload_n (pc := 80) dX7_readsLine_80 rfl rfl ?_
        refine V_iconst (pc := 81) dX7_readsLine_81 ?_
        refine V_iadd (pc := 82) dX7_readsLine_82 ?_
        refine V_iload (pc := 83) dX7_readsLine_83 rfl ?_
        refine V_iast (pc := 85) dX7_readsLine_85 gg_48 (by omega) (by decide) (by constructor <;> omega) ?_
        rw [show (3 * (m : Int) + 2).toNat = 3 * m + 2 by omega]
        refine V_iconst (pc := 86) dX7_readsLine_86 ?_
        refine V_ireturn (pc := 87) dX7_readsLine_87 rfl rfl (fun hR => ?_)
        have h2 := hok (fun p hp => by
          match p, hp with
          | 0, _ => exact o0
          | 1, _ => exact o1
          | 2, _ => exact o2
          | 3, _ => exact o3)
        rw [ms_ms, ms_ms, show ((m * 5 + 2 + 2 : Nat) : Int) = ((m * 5 + 4 : Nat) : Int) by omega]
        exact h2
      · show V_ _ _ _ _ _ _ [_] _
        rw [show m * 5 + 2 + 1 = m * 5 + 3 from rfl] at y3
        have o2 : ok_ 2 L b (m * 5 + 2) = true := ox_2_2.mpr (y2)
        have n3 : ok_ 2 L b (m * 5 + 3) = false := by
          cases hc : ok_ 2 L b (m * 5 + 3) with
          | false => rfl
          | true => have := ox_2_3.mp hc; exact absurd this (by (repeat' split at y3) <;> omega)
        refine V_istore (pc := 51) dX7_readsLine_51 (by decide) rfl ?_
        show V_ _ _ _ _ _ [_, _, _, _, _] _ _
        refine V_iload (pc := 53) dX7_readsLine_53 rfl ?_
        refine V_if_ge (tgt := 60) (pc := 55) dX7_readsLine_55 (by decide) (by constructor <;> omega) (fun h55 => by omega) (fun h55 => ?_)
        refine V_iconst (pc := 58) dX7_readsLine_58 ?_
        refine V_ireturn (pc := 59) dX7_readsLine_59 rfl rfl (fun hR => ?_)
        rw [ms_ms, ms_ms, show ((m * 5 + 2 + 1 : Nat) : Int) = ((m * 5 + 3 : Nat) : Int) by omega]
        have h2 := hno 3 (by decide) (fun j hj => by
          match j, hj with
          | 0, _ => exact o0
          | 1, _ => exact o1
          | 2, _ => exact o2
          | j + 3, hj => exact absurd hj (by omega)) n3
        exact h2
      · show V_ _ _ _ _ _ _ [_] _
        have n2 : ok_ 2 L b (m * 5 + 2) = false := by
          cases hc : ok_ 2 L b (m * 5 + 2) with
          | false => rfl
          | true => have := ox_2_2.mp hc; exact absurd this (y2)
        refine V_istore (pc := 51) dX7_readsLine_51 (by decide) rfl ?_
        show V_ _ _ _ _ _ [_, _, _, _, _] _ _
        refine V_iload (pc := 53) dX7_readsLine_53 rfl ?_
        refine V_if_ge (tgt := 60) (pc := 55) dX7_readsLine_55 (by decide) (by constructor <;> omega) (fun h55 => by omega) (fun h55 => ?_)
        refine V_iconst (pc := 58) dX7_readsLine_58 ?_
        refine V_ireturn (pc := 59) dX7_readsLine_59 rfl rfl (fun hR => ?_)
        rw [ms_ms, show (((m * 5 + 1 : Nat) : Int) + 1) = ((m * 5 + 2 : Nat) : Int) by omega]
        have h2 := hno 2 (by decide) (fun j hj => by
          match j, hj with
          | 0, _ => exact o0
          | 1, _ => exact o1
          | j + 2, hj => exact absurd hj (by omega)) n2
        exact h2
    · show V_ _ _ _ _ _ _ [_] _
      have n1 : ok_ 2 L b (m * 5 + 1) = false := by
        cases hc : ok_ 2 L b (m * 5 + 1) with
        | false => rfl
        | true => have := ox_2_1.mp hc; exact absurd this (y1)
      refine V_istore_n (pc := 36) dX7_readsLine_36 rfl (by decide) rfl ?_
      show V_ _ _ _ _ _ [_, _, _, _, _] _ _
      refine V_iload_n (pc := 37) dX7_readsLine_37 rfl rfl ?_
      refine V_bipush (pc := 38) dX7_readsLine_38 (by decide) ?_
      refine V_icmp_ne (tgt := 45) (pc := 40) dX7_readsLine_40 (by decide) (by constructor <;> omega) (by constructor <;> omega) (fun h40 => by omega) (fun h40 => ?_)
      refine V_iconst (pc := 43) dX7_readsLine_43 ?_
      refine V_ireturn (pc := 44) dX7_readsLine_44 rfl rfl (fun hR => ?_)
      rw [show (((m * 5 : Nat) : Int) + 1) = ((m * 5 + 1 : Nat) : Int) by omega]
      have h2 := hno 1 (by decide) (fun j hj => by
        match j, hj with
        | 0, _ => exact o0
        | j + 1, hj => exact absurd hj (by omega)) n1
      exact h2
  · show V_ _ _ _ _ _ _ [_] _
    have n0 : ok_ 2 L b (m * 5) = false := by
      cases hc : ok_ 2 L b (m * 5) with
      | false => rfl
      | true => have := ox_2_0.mp hc; exact absurd this (y0)
    refine V_istore_n (pc := 18) dX7_readsLine_18 rfl (by decide) rfl ?_
    show V_ _ _ _ _ _ [_, _, _, _, _] _ _
    refine V_iload_n (pc := 19) dX7_readsLine_19 rfl rfl ?_
    refine V_bipush (pc := 20) dX7_readsLine_20 (by decide) ?_
    refine V_icmp_ne (tgt := 27) (pc := 22) dX7_readsLine_22 (by decide) (by constructor <;> omega) (by constructor <;> omega) (fun h22 => by omega) (fun h22 => ?_)
    refine V_iconst (pc := 25) dX7_readsLine_25 ?_
    refine V_ireturn (pc := 26) dX7_readsLine_26 rfl rfl (fun hR => ?_)
    rw [← ms_id hq]
    have h2 := hno 0 (by decide) (fun j hj => absurd hj (Nat.not_lt_zero _)) n0
    exact h2
theorem ct_X7_readsName {L : Int} {b : Nat → Int} {m : Nat} (hT : MT_ 1 L b σ) (hL : 0 ≤ L ∧ L ≤ 39) (hq : σ 38 7 = ((m * 5 : Nat) : Int)) (hm : σ 45 1 = (m : Int)) (hm2 : m < 8) (hR : RM_ σ)
    (hno : ∀ p, p < 4 → (∀ j, j < p → ok_ 1 L b (m * 5 + j) = true) → ok_ 1 L b (m * 5 + p) = false → post (some (vi_ 0)) (ms_ σ 38 7 ((m * 5 + p : Nat) : Int)))
    (hok : (∀ p, p < 4 → ok_ 1 L b (m * 5 + p) = true) → post (some (vi_ 1)) (ms_ (ms_ (ms_ (ms_ σ 38 7 ((m * 5 + 4 : Nat) : Int)) 47 (3 * m) (fg_ L b ((m * 5 : Nat) : Int))) 47 (3 * m + 1) (if ba_ L b ((m * 5 + 2 : Nat) : Int) = 100 then (1 : Int) else 0)) 47 (3 * m + 2) (if ba_ L b ((m * 5 + 3 : Nat) : Int) = 46 then (-1 : Int) else ba_ L b ((m * 5 + 3 : Nat) : Int) - 97))) : V_ l D mX7_readsName (CM_ D mX7_readsName post) 0 [some (vr_ 38), none, none, none, none, none, none] [] σ := by
  refine V_iconst (pc := 0) dX7_readsName_0 ?_
  refine V_aload_n (pc := 1) dX7_readsName_1 rfl rfl ?_
  refine V_getr (pc := 2) dX7_readsName_2 fX7_28 rfl gg_38 rfl ?_
  refine V_iconst (pc := 5) dX7_readsName_5 ?_
  refine V_iald (pc := 6) dX7_readsName_6 gg_45 (by decide) (by decide) (fun r6 => ?_)
  rw [show σ 45 (1 : Int).toNat = (m : Int) from hm] at r6 ⊢
  refine V_imul (pc := 7) dX7_readsName_7 ?_
  refine V_istore_n (pc := 8) dX7_readsName_8 rfl (by decide) rfl ?_
  show V_ _ _ _ _ _ [_, _, _, _, _, _, _] _ _
  refine V_aload_n (pc := 9) dX7_readsName_9 rfl rfl ?_
  refine V_iconst (pc := 10) dX7_readsName_10 ?_
  refine V_iconst (pc := 11) dX7_readsName_11 ?_
  refine V_callV (pc := 12) (as := [_, _]) (rest := []) dX7_readsName_12 ⟨kX7_103, iX7_twoFigures, by decide, by decide⟩ rc_38 rfl rfl (Nat.le_of_ble_eq_true rfl) (Nat.le_of_ble_eq_true rfl) ?_
  refine ct_X7_twoFigures_1 (q := m * 5) hT hL hq (by omega) (by decide) (fun y0 y1 => ?_) (fun y0 y1 z hz => ?_) (fun y0 => ?_)
  · show V_ _ _ _ _ _ _ [_] _
    have o0 : ok_ 1 L b (m * 5) = true := ox_1_0.mpr (y0)
    have o1 : ok_ 1 L b (m * 5 + 1) = true := ox_1_1.mpr (by (repeat' split at y1) <;> omega)
    have hfg : 0 ≤ fg_ L b ((m * 5 : Nat) : Int) ∧ fg_ L b ((m * 5 : Nat) : Int) ≤ 99 := by
      have e : ((m * 5 + 1 : Nat) : Int) = ((m * 5 : Nat) : Int) + 1 := by omega
      rw [e] at y1
      unfold fg_
      (repeat' split at y1) <;> omega
    refine V_istore_n (pc := 15) dX7_readsName_15 rfl (by decide) rfl ?_
    show V_ _ _ _ _ _ [_, _, _, _, _, _, _] _ _
    refine V_iload_n (pc := 16) dX7_readsName_16 rfl rfl ?_
    refine V_if_ge (tgt := 22) (pc := 17) dX7_readsName_17 (by decide) (by constructor <;> omega) (fun h17 => ?_) (fun h17 => by omega)
    refine V_aload_n (pc := 22) dX7_readsName_22 rfl rfl ?_
    refine V_iconst (pc := 23) dX7_readsName_23 ?_
    refine V_bipush (pc := 24) dX7_readsName_24 (by decide) ?_
    refine V_bipush (pc := 26) dX7_readsName_26 (by decide) ?_
    refine V_callV (pc := 28) (as := [_, _, _]) (rest := []) dX7_readsName_28 ⟨kX7_97, iX7_passes, by decide, by decide⟩ rc_38 rfl rfl (Nat.le_of_ble_eq_true rfl) (Nat.le_of_ble_eq_true rfl) ?_
    refine ct_X7_passes_1 (q := m * 5 + 2) (hT.ms (by decide) (by decide)) hL (by rw [ms_eq]) (by omega) (by decide) (by decide) (fun y2 => ?_) (fun y2 => ?_)
    · show V_ _ _ _ _ _ _ [_] _
      have o2 : ok_ 1 L b (m * 5 + 2) = true := ox_1_2.mpr (by omega)
      refine V_istore_n (pc := 31) dX7_readsName_31 rfl (by decide) rfl ?_
      show V_ _ _ _ _ _ [_, _, _, _, _, _, _] _ _
      refine V_iload_n (pc := 32) dX7_readsName_32 rfl rfl ?_
      refine V_bipush (pc := 33) dX7_readsName_33 (by decide) ?_
      refine V_icmp_ne (tgt := 50) (pc := 35) dX7_readsName_35 (by decide) (by constructor <;> omega) (by constructor <;> omega) (fun h35 => ?_) (fun h35 => by omega)
      refine V_bipush (pc := 50) dX7_readsName_50 (by decide) ?_
      refine V_istore (pc := 52) dX7_readsName_52 (by decide) rfl ?_
      show V_ _ _ _ _ _ [_, _, _, _, _, _, _] _ _
      refine V_iload_n (pc := 54) dX7_readsName_54 rfl rfl ?_
      refine V_bipush (pc := 55) dX7_readsName_55 (by decide) ?_
      refine V_icmp_ne (tgt := 69) (pc := 57) dX7_readsName_57 (by decide) (by constructor <;> omega) (by constructor <;> omega) (fun h57 => ?_) (fun h57 => by omega)
      refine V_aload_n (pc := 69) dX7_readsName_69 rfl rfl ?_
      refine V_iconst (pc := 70) dX7_readsName_70 ?_
      refine V_bipush (pc := 71) dX7_readsName_71 (by decide) ?_
      refine V_bipush (pc := 73) dX7_readsName_73 (by decide) ?_
      refine V_callV (pc := 75) (as := [_, _, _]) (rest := []) dX7_readsName_75 ⟨kX7_97, iX7_passes, by decide, by decide⟩ rc_38 rfl rfl (Nat.le_of_ble_eq_true rfl) (Nat.le_of_ble_eq_true rfl) ?_
      refine ct_X7_passes_1 (q := m * 5 + 3) (by first | exact (hT.ms (by decide) (by decide)).ms (by decide) (by decide) | exact hT.ms (by decide) (by decide)) hL (by rw [ms_eq]; omega) (by omega) (by decide) (by decide) (fun y3 => ?_) (fun y3 => ?_)
      · show V_ _ _ _ _ _ _ [_] _
        have o3 : ok_ 1 L b (m * 5 + 3) = true := ox_1_3.mpr (by omega)
        refine V_istore (pc := 78) dX7_readsName_78 (by decide) rfl ?_
        show V_ _ _ _ _ _ [_, _, _, _, _, _, _] _ _
        refine V_iload (pc := 80) dX7_readsName_80 rfl ?_
        refine V_bipush (pc := 82) dX7_readsName_82 (by decide) ?_
        refine V_icmp_ne (tgt := 99) (pc := 84) dX7_readsName_84 (by decide) (by constructor <;> omega) (by constructor <;> omega) (fun h84 => ?_) (fun h84 => by omega)
        refine V_iconst (pc := 99) dX7_readsName_99 ?_
        refine V_istore (pc := 100) dX7_readsName_100 (by decide) rfl ?_
        show V_ _ _ _ _ _ [_, _, _, _, _, _, _] _ _
        refine V_iload (pc := 102) dX7_readsName_102 rfl ?_
        refine V_bipush (pc := 104) dX7_readsName_104 (by decide) ?_
        refine V_icmp_ne (tgt := 111) (pc := 106) dX7_readsName_106 (by decide) (by constructor <;> omega) (by constructor <;> omega) (fun h106 => ?_) (fun h106 => by exact absurd h106 (by decide))
        refine V_aload_n (pc := 111) dX7_readsName_111 rfl rfl ?_
        refine V_getr (pc := 112) dX7_readsName_112 fX7_34 rfl gg_38 rfl ?_
        refine V_iload_n (pc := 115) dX7_readsName_115 rfl rfl ?_
        refine V_iload_n (pc := 116) dX7_readsName_116 rfl rfl ?_
        refine V_iast (pc := 117) dX7_readsName_117 gg_47 (by omega) (by decide) (by constructor <;> omega) ?_
        rw [show (3 * (m : Int)).toNat = 3 * m by omega]
        refine V_aload_n (pc := 118) dX7_readsName_118 rfl rfl ?_
        refine V_getr (pc := 119) dX7_readsName_119 fX7_34 rfl gg_38 rfl ?_
        refine V_iload_n (pc := 122) dX7_readsName_122 rfl rfl ?_
        refine V_iconst (pc := 123) dX7_readsName_123 ?_
        refine V_iadd (pc := 124) dX7_readsName_124 ?_
        refine V_iload_n (pc := 125) dX7_readsName_125 rfl rfl ?_
        refine V_bipush (pc := 126) dX7_readsName_126 (by decide) ?_
        refine V_icmp_ne (tgt := 135) (pc := 128) dX7_readsName_128 (by decide) (by constructor <;> omega) (by constructor <;> omega) (fun h128 => ?_) (fun h128 => by omega)
        refine V_iconst (pc := 135) dX7_readsName_135 ?_
        refine V_iast (pc := 136) dX7_readsName_136 gg_47 (by omega) (by decide) (by constructor <;> omega) ?_
        rw [show (3 * (m : Int) + 1).toNat = 3 * m + 1 by omega]
        refine V_aload_n (pc := 137) dX7_readsName_137 rfl rfl ?_
        refine V_getr (pc := 138) dX7_readsName_138 fX7_34 rfl gg_38 rfl ?_
        refine V_iload_n (pc := 141) dX7_readsName_141 rfl rfl ?_
        refine V_iconst (pc := 142) dX7_readsName_142 ?_
        refine V_iadd (pc := 143) dX7_readsName_143 ?_
        refine V_iload (pc := 144) dX7_readsName_144 rfl ?_
        refine V_iast (pc := 146) dX7_readsName_146 gg_47 (by omega) (by decide) (by constructor <;> omega) ?_
        rw [show (3 * (m : Int) + 2).toNat = 3 * m + 2 by omega]
        refine V_iconst (pc := 147) dX7_readsName_147 ?_
        refine V_ireturn (pc := 148) dX7_readsName_148 rfl rfl (fun hR => ?_)
        have h2 := hok (fun p hp => by
          match p, hp with
          | 0, _ => exact o0
          | 1, _ => exact o1
          | 2, _ => exact o2
          | 3, _ => exact o3)
        simp only [ms_ms]
        rw [show (((m * 5 + 3 : Nat) : Int) + 1) = ((m * 5 + 4 : Nat) : Int) by omega]
        rw [show (if ba_ L b ((m * 5 + 2 : Nat) : Int) = 100 then (1 : Int) else 0) = 0 from if_neg (by omega), show (if ba_ L b ((m * 5 + 3 : Nat) : Int) = 46 then (-1 : Int) else ba_ L b ((m * 5 + 3 : Nat) : Int) - 97) = -1 from if_pos (by omega)] at h2
        exact h2
      · show V_ _ _ _ _ _ _ [_] _
        refine V_istore (pc := 78) dX7_readsName_78 (by decide) rfl ?_
        show V_ _ _ _ _ _ [_, _, _, _, _, _, _] _ _
        refine V_iload (pc := 80) dX7_readsName_80 rfl ?_
        refine V_bipush (pc := 82) dX7_readsName_82 (by decide) ?_
        refine V_icmp_ne (tgt := 99) (pc := 84) dX7_readsName_84 (by decide) (by constructor <;> omega) (by constructor <;> omega) (fun h84 => by omega) (fun h84 => ?_)
        refine V_aload_n (pc := 87) dX7_readsName_87 rfl rfl ?_
        refine V_iconst (pc := 88) dX7_readsName_88 ?_
        refine V_bipush (pc := 89) dX7_readsName_89 (by decide) ?_
        refine V_bipush (pc := 91) dX7_readsName_91 (by decide) ?_
        refine V_callV (pc := 93) (as := [_, _, _]) (rest := []) dX7_readsName_93 ⟨kX7_97, iX7_passes, by decide, by decide⟩ rc_38 rfl rfl (Nat.le_of_ble_eq_true rfl) (Nat.le_of_ble_eq_true rfl) ?_
        refine ct_X7_passes_1 (q := m * 5 + 3) (by first | exact (hT.ms (by decide) (by decide)).ms (by decide) (by decide) | exact hT.ms (by decide) (by decide)) hL (by rw [ms_eq]; omega) (by omega) (by decide) (by decide) (fun y4 => ?_) (fun y4 => ?_)
        · show V_ _ _ _ _ _ _ [_] _
          have o3 : ok_ 1 L b (m * 5 + 3) = true := ox_1_3.mpr (by omega)
          refine V_goto (tgt := 100) (pc := 96) dX7_readsName_96 (by decide) ?_
          refine V_istore (pc := 100) dX7_readsName_100 (by decide) rfl ?_
          show V_ _ _ _ _ _ [_, _, _, _, _, _, _] _ _
          refine V_iload (pc := 102) dX7_readsName_102 rfl ?_
          refine V_bipush (pc := 104) dX7_readsName_104 (by decide) ?_
          refine V_icmp_ne (tgt := 111) (pc := 106) dX7_readsName_106 (by decide) (by constructor <;> omega) (by constructor <;> omega) (fun h106 => ?_) (fun h106 => by omega)
          refine V_aload_n (pc := 111) dX7_readsName_111 rfl rfl ?_
          refine V_getr (pc := 112) dX7_readsName_112 fX7_34 rfl gg_38 rfl ?_
          refine V_iload_n (pc := 115) dX7_readsName_115 rfl rfl ?_
          refine V_iload_n (pc := 116) dX7_readsName_116 rfl rfl ?_
          refine V_iast (pc := 117) dX7_readsName_117 gg_47 (by omega) (by decide) (by constructor <;> omega) ?_
          rw [show (3 * (m : Int)).toNat = 3 * m by omega]
          refine V_aload_n (pc := 118) dX7_readsName_118 rfl rfl ?_
          refine V_getr (pc := 119) dX7_readsName_119 fX7_34 rfl gg_38 rfl ?_
          refine V_iload_n (pc := 122) dX7_readsName_122 rfl rfl ?_
          refine V_iconst (pc := 123) dX7_readsName_123 ?_
          refine V_iadd (pc := 124) dX7_readsName_124 ?_
          refine V_iload_n (pc := 125) dX7_readsName_125 rfl rfl ?_
          refine V_bipush (pc := 126) dX7_readsName_126 (by decide) ?_
          refine V_icmp_ne (tgt := 135) (pc := 128) dX7_readsName_128 (by decide) (by constructor <;> omega) (by constructor <;> omega) (fun h128 => ?_) (fun h128 => by omega)
          refine V_iconst (pc := 135) dX7_readsName_135 ?_
          refine V_iast (pc := 136) dX7_readsName_136 gg_47 (by omega) (by decide) (by constructor <;> omega) ?_
          rw [show (3 * (m : Int) + 1).toNat = 3 * m + 1 by omega]
          refine V_aload_n (pc := 137) dX7_readsName_137 rfl rfl ?_
          refine V_getr (pc := 138) dX7_readsName_138 fX7_34 rfl gg_38 rfl ?_
          refine V_iload_n (pc := 141) dX7_readsName_141 rfl rfl ?_
          refine V_iconst (pc := 142) dX7_readsName_142 ?_
          refine V_iadd (pc := 143) dX7_readsName_143 ?_
          refine V_iload (pc := 144) dX7_readsName_144 rfl ?_
          refine V_iast (pc := 146) dX7_readsName_146 gg_47 (by omega) (by decide) (by constructor <;> omega) ?_
          rw [show (3 * (m : Int) + 2).toNat = 3 * m + 2 by omega]
          refine V_iconst (pc := 147) dX7_readsName_147 ?_
          refine V_ireturn (pc := 148) dX7_readsName_148 rfl rfl (fun hR => ?_)
          have h2 := hok (fun p hp => by
            match p, hp with
            | 0, _ => exact o0
            | 1, _ => exact o1
            | 2, _ => exact o2
            | 3, _ => exact o3)
          simp only [ms_ms]
          rw [show (((m * 5 + 3 : Nat) : Int) + 1) = ((m * 5 + 4 : Nat) : Int) by omega]
          rw [show (if ba_ L b ((m * 5 + 2 : Nat) : Int) = 100 then (1 : Int) else 0) = 0 from if_neg (by omega), show (if ba_ L b ((m * 5 + 3 : Nat) : Int) = 46 then (-1 : Int) else ba_ L b ((m * 5 + 3 : Nat) : Int) - 97) = ba_ L b ((m * 5 + 3 : Nat) : Int) - 97 from if_neg (by omega)] at h2
          exact h2
        · show V_ _ _ _ _ _ _ [_] _
          have n3 : ok_ 1 L b (m * 5 + 3) = false := by
            cases hc : ok_ 1 L b (m * 5 + 3) with
            | false => rfl
            | true => have := ox_1_3.mp hc; exact absurd this (by omega)
          refine V_goto (tgt := 100) (pc := 96) dX7_readsName_96 (by decide) ?_
          refine V_istore (pc := 100) dX7_readsName_100 (by decide) rfl ?_
          show V_ _ _ _ _ _ [_, _, _, _, _, _, _] _ _
          refine V_iload (pc := 102) dX7_readsName_102 rfl ?_
          refine V_bipush (pc := 104) dX7_readsName_104 (by decide) ?_
          refine V_icmp_ne (tgt := 111) (pc := 106) dX7_readsName_106 (by decide) (by constructor <;> omega) (by constructor <;> omega) (fun h106 => by omega) (fun h106 => ?_)
          refine V_iconst (pc := 109) dX7_readsName_109 ?_
          refine V_ireturn (pc := 110) dX7_readsName_110 rfl rfl (fun hR => ?_)
          simp only [ms_ms]
          rw [show (((m * 5 + 2 : Nat) : Int) + 1) = ((m * 5 + 3 : Nat) : Int) by omega]
          have h2 := hno 3 (by decide) (fun j hj => by
            match j, hj with
            | 0, _ => exact o0
            | 1, _ => exact o1
            | 2, _ => exact o2
            | j + 3, hj => exact absurd hj (by omega)) n3
          exact h2
    · show V_ _ _ _ _ _ _ [_] _
      refine V_istore_n (pc := 31) dX7_readsName_31 rfl (by decide) rfl ?_
      show V_ _ _ _ _ _ [_, _, _, _, _, _, _] _ _
      refine V_iload_n (pc := 32) dX7_readsName_32 rfl rfl ?_
      refine V_bipush (pc := 33) dX7_readsName_33 (by decide) ?_
      refine V_icmp_ne (tgt := 50) (pc := 35) dX7_readsName_35 (by decide) (by constructor <;> omega) (by constructor <;> omega) (fun h35 => by omega) (fun h35 => ?_)
      refine V_aload_n (pc := 38) dX7_readsName_38 rfl rfl ?_
      refine V_iconst (pc := 39) dX7_readsName_39 ?_
      refine V_bipush (pc := 40) dX7_readsName_40 (by decide) ?_
      refine V_bipush (pc := 42) dX7_readsName_42 (by decide) ?_
      refine V_callV (pc := 44) (as := [_, _, _]) (rest := []) dX7_readsName_44 ⟨kX7_97, iX7_passes, by decide, by decide⟩ rc_38 rfl rfl (Nat.le_of_ble_eq_true rfl) (Nat.le_of_ble_eq_true rfl) ?_
      refine ct_X7_passes_1 (q := m * 5 + 2) (hT.ms (by decide) (by decide)) hL (by rw [ms_eq]) (by omega) (by decide) (by decide) (fun z2 => ?_) (fun z2 => ?_)
      · show V_ _ _ _ _ _ _ [_] _
        have o2 : ok_ 1 L b (m * 5 + 2) = true := ox_1_2.mpr (by omega)
        refine V_goto (tgt := 52) (pc := 47) dX7_readsName_47 (by decide) ?_
        refine V_istore (pc := 52) dX7_readsName_52 (by decide) rfl ?_
        show V_ _ _ _ _ _ [_, _, _, _, _, _, _] _ _
        refine V_iload_n (pc := 54) dX7_readsName_54 rfl rfl ?_
        refine V_bipush (pc := 55) dX7_readsName_55 (by decide) ?_
        refine V_icmp_ne (tgt := 69) (pc := 57) dX7_readsName_57 (by decide) (by constructor <;> omega) (by constructor <;> omega) (fun h57 => by omega) (fun h57 => ?_)
        refine V_iload (pc := 60) dX7_readsName_60 rfl ?_
        refine V_bipush (pc := 62) dX7_readsName_62 (by decide) ?_
        refine V_icmp_ne (tgt := 69) (pc := 64) dX7_readsName_64 (by decide) (by constructor <;> omega) (by constructor <;> omega) (fun h64 => ?_) (fun h64 => by omega)
        refine V_aload_n (pc := 69) dX7_readsName_69 rfl rfl ?_
        refine V_iconst (pc := 70) dX7_readsName_70 ?_
        refine V_bipush (pc := 71) dX7_readsName_71 (by decide) ?_
        refine V_bipush (pc := 73) dX7_readsName_73 (by decide) ?_
        refine V_callV (pc := 75) (as := [_, _, _]) (rest := []) dX7_readsName_75 ⟨kX7_97, iX7_passes, by decide, by decide⟩ rc_38 rfl rfl (Nat.le_of_ble_eq_true rfl) (Nat.le_of_ble_eq_true rfl) ?_
        refine ct_X7_passes_1 (q := m * 5 + 3) (by first | exact (hT.ms (by decide) (by decide)).ms (by decide) (by decide) | exact hT.ms (by decide) (by decide)) hL (by rw [ms_eq]; omega) (by omega) (by decide) (by decide) (fun y3 => ?_) (fun y3 => ?_)
        · show V_ _ _ _ _ _ _ [_] _
          have o3 : ok_ 1 L b (m * 5 + 3) = true := ox_1_3.mpr (by omega)
          refine V_istore (pc := 78) dX7_readsName_78 (by decide) rfl ?_
          show V_ _ _ _ _ _ [_, _, _, _, _, _, _] _ _
          refine V_iload (pc := 80) dX7_readsName_80 rfl ?_
          refine V_bipush (pc := 82) dX7_readsName_82 (by decide) ?_
          refine V_icmp_ne (tgt := 99) (pc := 84) dX7_readsName_84 (by decide) (by constructor <;> omega) (by constructor <;> omega) (fun h84 => ?_) (fun h84 => by omega)
          refine V_iconst (pc := 99) dX7_readsName_99 ?_
          refine V_istore (pc := 100) dX7_readsName_100 (by decide) rfl ?_
          show V_ _ _ _ _ _ [_, _, _, _, _, _, _] _ _
          refine V_iload (pc := 102) dX7_readsName_102 rfl ?_
          refine V_bipush (pc := 104) dX7_readsName_104 (by decide) ?_
          refine V_icmp_ne (tgt := 111) (pc := 106) dX7_readsName_106 (by decide) (by constructor <;> omega) (by constructor <;> omega) (fun h106 => ?_) (fun h106 => by exact absurd h106 (by decide))
          refine V_aload_n (pc := 111) dX7_readsName_111 rfl rfl ?_
          refine V_getr (pc := 112) dX7_readsName_112 fX7_34 rfl gg_38 rfl ?_
          refine V_iload_n (pc := 115) dX7_readsName_115 rfl rfl ?_
          refine V_iload_n (pc := 116) dX7_readsName_116 rfl rfl ?_
          refine V_iast (pc := 117) dX7_readsName_117 gg_47 (by omega) (by decide) (by constructor <;> omega) ?_
          rw [show (3 * (m : Int)).toNat = 3 * m by omega]
          refine V_aload_n (pc := 118) dX7_readsName_118 rfl rfl ?_
          refine V_getr (pc := 119) dX7_readsName_119 fX7_34 rfl gg_38 rfl ?_
          refine V_iload_n (pc := 122) dX7_readsName_122 rfl rfl ?_
          refine V_iconst (pc := 123) dX7_readsName_123 ?_
          refine V_iadd (pc := 124) dX7_readsName_124 ?_
          refine V_iload_n (pc := 125) dX7_readsName_125 rfl rfl ?_
          refine V_bipush (pc := 126) dX7_readsName_126 (by decide) ?_
          refine V_icmp_ne (tgt := 135) (pc := 128) dX7_readsName_128 (by decide) (by constructor <;> omega) (by constructor <;> omega) (fun h128 => by omega) (fun h128 => ?_)
          refine V_iconst (pc := 131) dX7_readsName_131 ?_
          refine V_goto (tgt := 136) (pc := 132) dX7_readsName_132 (by decide) ?_
          refine V_iast (pc := 136) dX7_readsName_136 gg_47 (by omega) (by decide) (by constructor <;> omega) ?_
          rw [show (3 * (m : Int) + 1).toNat = 3 * m + 1 by omega]
          refine V_aload_n (pc := 137) dX7_readsName_137 rfl rfl ?_
          refine V_getr (pc := 138) dX7_readsName_138 fX7_34 rfl gg_38 rfl ?_
          refine V_iload_n (pc := 141) dX7_readsName_141 rfl rfl ?_
          refine V_iconst (pc := 142) dX7_readsName_142 ?_
          refine V_iadd (pc := 143) dX7_readsName_143 ?_
          refine V_iload (pc := 144) dX7_readsName_144 rfl ?_
          refine V_iast (pc := 146) dX7_readsName_146 gg_47 (by omega) (by decide) (by constructor <;> omega) ?_
          rw [show (3 * (m : Int) + 2).toNat = 3 * m + 2 by omega]
          refine V_iconst (pc := 147) dX7_readsName_147 ?_
          refine V_ireturn (pc := 148) dX7_readsName_148 rfl rfl (fun hR => ?_)
          have h2 := hok (fun p hp => by
            match p, hp with
            | 0, _ => exact o0
            | 1, _ => exact o1
            | 2, _ => exact o2
            | 3, _ => exact o3)
          simp only [ms_ms]
          rw [show (((m * 5 + 3 : Nat) : Int) + 1) = ((m * 5 + 4 : Nat) : Int) by omega]
          rw [show (if ba_ L b ((m * 5 + 2 : Nat) : Int) = 100 then (1 : Int) else 0) = 1 from if_pos (by omega), show (if ba_ L b ((m * 5 + 3 : Nat) : Int) = 46 then (-1 : Int) else ba_ L b ((m * 5 + 3 : Nat) : Int) - 97) = -1 from if_pos (by omega)] at h2
          exact h2
        · show V_ _ _ _ _ _ _ [_] _
          refine V_istore (pc := 78) dX7_readsName_78 (by decide) rfl ?_
          show V_ _ _ _ _ _ [_, _, _, _, _, _, _] _ _
          refine V_iload (pc := 80) dX7_readsName_80 rfl ?_
          refine V_bipush (pc := 82) dX7_readsName_82 (by decide) ?_
          refine V_icmp_ne (tgt := 99) (pc := 84) dX7_readsName_84 (by decide) (by constructor <;> omega) (by constructor <;> omega) (fun h84 => by omega) (fun h84 => ?_)
          refine V_aload_n (pc := 87) dX7_readsName_87 rfl rfl ?_
          refine V_iconst (pc := 88) dX7_readsName_88 ?_
          refine V_bipush (pc := 89) dX7_readsName_89 (by decide) ?_
          refine V_bipush (pc := 91) dX7_readsName_91 (by decide) ?_
          refine V_callV (pc := 93) (as := [_, _, _]) (rest := []) dX7_readsName_93 ⟨kX7_97, iX7_passes, by decide, by decide⟩ rc_38 rfl rfl (Nat.le_of_ble_eq_true rfl) (Nat.le_of_ble_eq_true rfl) ?_
          refine ct_X7_passes_1 (q := m * 5 + 3) (by first | exact (hT.ms (by decide) (by decide)).ms (by decide) (by decide) | exact hT.ms (by decide) (by decide)) hL (by rw [ms_eq]; omega) (by omega) (by decide) (by decide) (fun y4 => ?_) (fun y4 => ?_)
          · show V_ _ _ _ _ _ _ [_] _
            have o3 : ok_ 1 L b (m * 5 + 3) = true := ox_1_3.mpr (by omega)
            refine V_goto (tgt := 100) (pc := 96) dX7_readsName_96 (by decide) ?_
            refine V_istore (pc := 100) dX7_readsName_100 (by decide) rfl ?_
            show V_ _ _ _ _ _ [_, _, _, _, _, _, _] _ _
            refine V_iload (pc := 102) dX7_readsName_102 rfl ?_
            refine V_bipush (pc := 104) dX7_readsName_104 (by decide) ?_
            refine V_icmp_ne (tgt := 111) (pc := 106) dX7_readsName_106 (by decide) (by constructor <;> omega) (by constructor <;> omega) (fun h106 => ?_) (fun h106 => by omega)
            refine V_aload_n (pc := 111) dX7_readsName_111 rfl rfl ?_
            refine V_getr (pc := 112) dX7_readsName_112 fX7_34 rfl gg_38 rfl ?_
            refine V_iload_n (pc := 115) dX7_readsName_115 rfl rfl ?_
            refine V_iload_n (pc := 116) dX7_readsName_116 rfl rfl ?_
            refine V_iast (pc := 117) dX7_readsName_117 gg_47 (by omega) (by decide) (by constructor <;> omega) ?_
            rw [show (3 * (m : Int)).toNat = 3 * m by omega]
            refine V_aload_n (pc := 118) dX7_readsName_118 rfl rfl ?_
            refine V_getr (pc := 119) dX7_readsName_119 fX7_34 rfl gg_38 rfl ?_
            refine V_iload_n (pc := 122) dX7_readsName_122 rfl rfl ?_
            refine V_iconst (pc := 123) dX7_readsName_123 ?_
            refine V_iadd (pc := 124) dX7_readsName_124 ?_
            refine V_iload_n (pc := 125) dX7_readsName_125 rfl rfl ?_
            refine V_bipush (pc := 126) dX7_readsName_126 (by decide) ?_
            refine V_icmp_ne (tgt := 135) (pc := 128) dX7_readsName_128 (by decide) (by constructor <;> omega) (by constructor <;> omega) (fun h128 => by omega) (fun h128 => ?_)
            refine V_iconst (pc := 131) dX7_readsName_131 ?_
            refine V_goto (tgt := 136) (pc := 132) dX7_readsName_132 (by decide) ?_
            refine V_iast (pc := 136) dX7_readsName_136 gg_47 (by omega) (by decide) (by constructor <;> omega) ?_
            rw [show (3 * (m : Int) + 1).toNat = 3 * m + 1 by omega]
            refine V_aload_n (pc := 137) dX7_readsName_137 rfl rfl ?_
            refine V_getr (pc := 138) dX7_readsName_138 fX7_34 rfl gg_38 rfl ?_
            refine V_iload_n (pc := 141) dX7_readsName_141 rfl rfl ?_
            refine V_iconst (pc := 142) dX7_readsName_142 ?_
            refine V_iadd (pc := 143) dX7_readsName_143 ?_
            refine V_iload (pc := 144) dX7_readsName_144 rfl ?_
            refine V_iast (pc := 146) dX7_readsName_146 gg_47 (by omega) (by decide) (by constructor <;> omega) ?_
            rw [show (3 * (m : Int) + 2).toNat = 3 * m + 2 by omega]
            refine V_iconst (pc := 147) dX7_readsName_147 ?_
            refine V_ireturn (pc := 148) dX7_readsName_148 rfl rfl (fun hR => ?_)
            have h2 := hok (fun p hp => by
              match p, hp with
              | 0, _ => exact o0
              | 1, _ => exact o1
              | 2, _ => exact o2
              | 3, _ => exact o3)
            simp only [ms_ms]
            rw [show (((m * 5 + 3 : Nat) : Int) + 1) = ((m * 5 + 4 : Nat) : Int) by omega]
            rw [show (if ba_ L b ((m * 5 + 2 : Nat) : Int) = 100 then (1 : Int) else 0) = 1 from if_pos (by omega), show (if ba_ L b ((m * 5 + 3 : Nat) : Int) = 46 then (-1 : Int) else ba_ L b ((m * 5 + 3 : Nat) : Int) - 97) = ba_ L b ((m * 5 + 3 : Nat) : Int) - 97 from if_neg (by omega)] at h2
            exact h2
          · show V_ _ _ _ _ _ _ [_] _
            have n3 : ok_ 1 L b (m * 5 + 3) = false := by
              cases hc : ok_ 1 L b (m * 5 + 3) with
              | false => rfl
              | true => have := ox_1_3.mp hc; exact absurd this (by omega)
            refine V_goto (tgt := 100) (pc := 96) dX7_readsName_96 (by decide) ?_
            refine V_istore (pc := 100) dX7_readsName_100 (by decide) rfl ?_
            show V_ _ _ _ _ _ [_, _, _, _, _, _, _] _ _
            refine V_iload (pc := 102) dX7_readsName_102 rfl ?_
            refine V_bipush (pc := 104) dX7_readsName_104 (by decide) ?_
            refine V_icmp_ne (tgt := 111) (pc := 106) dX7_readsName_106 (by decide) (by constructor <;> omega) (by constructor <;> omega) (fun h106 => by omega) (fun h106 => ?_)
            refine V_iconst (pc := 109) dX7_readsName_109 ?_
            refine V_ireturn (pc := 110) dX7_readsName_110 rfl rfl (fun hR => ?_)
            simp only [ms_ms]
            rw [show (((m * 5 + 2 : Nat) : Int) + 1) = ((m * 5 + 3 : Nat) : Int) by omega]
            have h2 := hno 3 (by decide) (fun j hj => by
              match j, hj with
              | 0, _ => exact o0
              | 1, _ => exact o1
              | 2, _ => exact o2
              | j + 3, hj => exact absurd hj (by omega)) n3
            exact h2
      · show V_ _ _ _ _ _ _ [_] _
        have n2 : ok_ 1 L b (m * 5 + 2) = false := by
          cases hc : ok_ 1 L b (m * 5 + 2) with
          | false => rfl
          | true => have := ox_1_2.mp hc; exact absurd this (by omega)
        refine V_goto (tgt := 52) (pc := 47) dX7_readsName_47 (by decide) ?_
        refine V_istore (pc := 52) dX7_readsName_52 (by decide) rfl ?_
        show V_ _ _ _ _ _ [_, _, _, _, _, _, _] _ _
        refine V_iload_n (pc := 54) dX7_readsName_54 rfl rfl ?_
        refine V_bipush (pc := 55) dX7_readsName_55 (by decide) ?_
        refine V_icmp_ne (tgt := 69) (pc := 57) dX7_readsName_57 (by decide) (by constructor <;> omega) (by constructor <;> omega) (fun h57 => by omega) (fun h57 => ?_)
        refine V_iload (pc := 60) dX7_readsName_60 rfl ?_
        refine V_bipush (pc := 62) dX7_readsName_62 (by decide) ?_
        refine V_icmp_ne (tgt := 69) (pc := 64) dX7_readsName_64 (by decide) (by constructor <;> omega) (by constructor <;> omega) (fun h64 => by omega) (fun h64 => ?_)
        refine V_iconst (pc := 67) dX7_readsName_67 ?_
        refine V_ireturn (pc := 68) dX7_readsName_68 rfl rfl (fun hR => ?_)
        have h2 := hno 2 (by decide) (fun j hj => by
          match j, hj with
          | 0, _ => exact o0
          | 1, _ => exact o1
          | j + 2, hj => exact absurd hj (by omega)) n2
        exact h2
  · show V_ _ _ _ _ _ _ [_] _
    have o0 : ok_ 1 L b (m * 5) = true := ox_1_0.mpr (y0)
    have n1 : ok_ 1 L b (m * 5 + 1) = false := by
      cases hc : ok_ 1 L b (m * 5 + 1) with
      | false => rfl
      | true => have := ox_1_1.mp hc; exact absurd this (by (repeat' split at y1) <;> omega)
    refine V_istore_n (pc := 15) dX7_readsName_15 rfl (by decide) rfl ?_
    show V_ _ _ _ _ _ [_, _, _, _, _, _, _] _ _
    refine V_iload_n (pc := 16) dX7_readsName_16 rfl rfl ?_
    refine V_if_ge (tgt := 22) (pc := 17) dX7_readsName_17 (by decide) (by constructor <;> omega) (fun h17 => by omega) (fun h17 => ?_)
    refine V_iconst (pc := 20) dX7_readsName_20 ?_
    refine V_ireturn (pc := 21) dX7_readsName_21 rfl rfl (fun hR => ?_)
    have h2 := hno 1 (by decide) (fun j hj => by
      match j, hj with
      | 0, _ => exact o0
      | j + 1, hj => exact absurd hj (by omega)) n1
    exact h2
  · show V_ _ _ _ _ _ _ [_] _
    have n0 : ok_ 1 L b (m * 5) = false := by
      cases hc : ok_ 1 L b (m * 5) with
      | false => rfl
      | true => have := ox_1_0.mp hc; exact absurd this (y0)
    refine V_istore_n (pc := 15) dX7_readsName_15 rfl (by decide) rfl ?_
    show V_ _ _ _ _ _ [_, _, _, _, _, _, _] _ _
    refine V_iload_n (pc := 16) dX7_readsName_16 rfl rfl ?_
    refine V_if_ge (tgt := 22) (pc := 17) dX7_readsName_17 (by decide) (by constructor <;> omega) (fun h17 => by omega) (fun h17 => ?_)
    refine V_iconst (pc := 20) dX7_readsName_20 ?_
    refine V_ireturn (pc := 21) dX7_readsName_21 rfl rfl (fun hR => ?_)
    rw [← ms_id hq]
    have h2 := hno 0 (by decide) (fun j hj => absurd hj (Nat.not_lt_zero _)) n0
    exact h2
end
