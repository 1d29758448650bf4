/-! ## class Harbour: striking out, sums -/
def bo_ (v : Mm_) (s k : Int) (n : Nat) : Int := sm_ (fun i => if v 8 i = s ∧ sd_ v i ∧ bb_ v (v 9 i) = k then du_ v i else 0) n
def bt2_ (v : Mm_) (k : Int) (n : Nat) : Int := sm_ (fun s => bo_ v (s : Int) k (v 7 0).toNat) n
def hs_ (v : Mm_) (set : Int) (n : Nat) : Int := sm_ (fun k => if bt_ set (k : Int) = true then v 4 k else 0) n
def ch_ (v : Mm_) (set : Int) : Nat → Int
  | 0 => 1
  | n + 1 => ch_ v set n * (if bt_ set (n : Int) = true then v 2 n else 16 - v 2 n)
theorem bo_rg {v : Mm_} (h : WF_ v) {s k : Int} {n : Nat} (hn : (n : Int) ≤ v 7 0) : 0 ≤ bo_ v s k n ∧ bo_ v s k n ≤ 99 * n := by
  refine sm_rg (fun i hi => ?_)
  have := du_rg h (i := i) (by omega)
  split <;> omega
theorem bt2_rg {v : Mm_} (h : WF_ v) {k : Int} {n : Nat} (hn : (n : Int) ≤ v 0 0) : 0 ≤ bt2_ v k n ∧ bt2_ v k n ≤ 1188 * n := by
  refine sm_rg (fun i hi => ?_)
  have wl := h.l
  have := bo_rg h (s := (i : Int)) (k := k) (n := (v 7 0).toNat) (by omega)
  omega
theorem hs_rg {v : Mm_} (h : WF_ v) {set : Int} {n : Nat} (hn : (n : Int) ≤ v 3 0) : 0 ≤ hs_ v set n ∧ hs_ v set n ≤ 99 * n := by
  refine sm_rg (fun i hi => ?_)
  have := h.ni (k := i) (by omega)
  split <;> omega
theorem ch_rg {v : Mm_} (h : WF_ v) {set : Int} : ∀ {n : Nat}, (n : Int) ≤ v 0 0 → 0 ≤ ch_ v set n ∧ ch_ v set n ≤ ((16 ^ n : Nat) : Int) := by
  intro n
  induction n with
  | zero => intro _; simp [ch_]
  | succ n ih =>
    intro hn
    have h1 := ih (by omega)
    have h2 := h.si (k := n) (by omega)
    have h3 : 0 ≤ (if bt_ set (n : Int) = true then v 2 n else 16 - v 2 n) ∧ (if bt_ set (n : Int) = true then v 2 n else 16 - v 2 n) ≤ 16 := by split <;> omega
    unfold ch_
    refine ⟨Int.mul_nonneg h1.1 h3.1, ?_⟩
    have h4 := Int.mul_le_mul h1.2 h3.2 h3.1 (by omega)
    rw [Nat.pow_succ]
    simpa using h4
theorem p16 {n : Nat} (h : n ≤ 6) : ((16 ^ n : Nat) : Int) ≤ 16777216 := by
  have : 16 ^ n ≤ 16 ^ 6 := Nat.pow_le_pow_right (by decide) h
  omega
section
variable {l : Launch} {D : Dt_} {v σ : Mm_} {post : Option Av_ → Mm_ → Prop}
theorem lq_X1_strikeOut {x : Int} (hW : WF_ v) (hC : HC_ v σ) (hx : x = v 11 0) (h : post none (wr_ (wr_ (wr_ σ 27 (fun k => bb_ v (k : Int)) (v 3 0).toNat) 28 (fun k => du_ v k) (v 7 0).toNat) 10 (fun k => pp_ v k) (v 7 0).toNat)) : ∀ i : Nat, i ≤ (v 7 0).toNat → V_ l D mX1_strikeOut (CM_ D mX1_strikeOut post) 30 [some (vr_ 19), some (vi_ x), some (vi_ (i : Int)), none] [] (wr_ (wr_ (wr_ σ 27 (fun k => bb_ v (k : Int)) (v 3 0).toNat) 28 (fun k => du_ v k) i) 10 (fun k => pp_ v k) i) := by
  have wl := hW.l
  have wn := hW.n
  have hn : ((v 7 0).toNat : Int) = v 7 0 := Int.toNat_of_nonneg wl.1
  refine up_ _ (fun i hi ih => ?_)
  obtain ⟨τ, hτ⟩ : ∃ τ, τ = wr_ (wr_ (wr_ σ 27 (fun k => bb_ v (k : Int)) (v 3 0).toNat) 28 (fun k => du_ v k) i) 10 (fun k => pp_ v k) i := ⟨_, rfl⟩
  rw [← hτ]
  have hC0 := hC
  have hC : HC_ v τ := hC0.cg (fun a b h1 h2 => by rw [hτ, wr_rw (by omega), wr_rw (by omega), wr_rw (by omega)])
  refine V_iload_n (pc := 30) dX1_strikeOut_30 rfl rfl ?_
  refine V_aload_n (pc := 31) dX1_strikeOut_31 rfl rfl ?_
  refine V_geti (pc := 32) dX1_strikeOut_32 fX1_49 rfl gg_19 rfl (fun r32 => ?_)
  rw [hC.2.2.1]
  refine V_icmp_ge (tgt := 96) (pc := 35) dX1_strikeOut_35 (by decide) (by first | assumption | decide | omega | exact ba_rg hR | exact b2_rg) (by first | assumption | decide | omega | exact ba_rg hR | exact b2_rg) (fun h35 => ?_) (fun h35 => ?_)
  · skip
    refine V_return (pc := 96) dX1_strikeOut_96 rfl (fun hR => ?_)
    rw [show i = (v 7 0).toNat by omega] at hτ
    rw [hτ]
    exact h
  · skip
    refine V_aload_n (pc := 38) dX1_strikeOut_38 rfl rfl ?_
    refine V_iload_n (pc := 39) dX1_strikeOut_39 rfl rfl ?_
    refine V_iload_n (pc := 40) dX1_strikeOut_40 rfl rfl ?_
    refine V_callV (pc := 41) (as := [_, _]) (rest := []) dX1_strikeOut_41 ⟨kX1_83, iX1_isVoid, by decide, by decide⟩ rc_19 rfl rfl (Nat.le_of_ble_eq_true rfl) (Nat.le_of_ble_eq_true rfl) ?_
    refine ct_X1_isVoid hW hC (by omega) hx ?_
    show V_ _ _ _ _ _ _ [_] _
    refine V_istore_n (pc := 44) dX1_strikeOut_44 rfl (by decide) rfl ?_
    show V_ _ _ _ _ _ [_, _, _, _] _ _
    refine V_aload_n (pc := 45) dX1_strikeOut_45 rfl rfl ?_
    refine V_getr (pc := 46) dX1_strikeOut_46 fX1_36 rfl gg_19 rfl ?_
    refine V_iload_n (pc := 49) dX1_strikeOut_49 rfl rfl ?_
    refine V_iload_n (pc := 50) dX1_strikeOut_50 rfl rfl ?_
    refine V_if_eq (tgt := 58) (pc := 51) dX1_strikeOut_51 (by decide) (by first | assumption | decide | omega | exact ba_rg hR | exact b2_rg) (fun h51 => ?_) (fun h51 => ?_)
    · skip
      rw [b2_0] at h51
      have h51 := Decidable.not_not.mp h51
      refine V_aload_n (pc := 58) dX1_strikeOut_58 rfl rfl ?_
      refine V_iload_n (pc := 59) dX1_strikeOut_59 rfl rfl ?_
      refine V_iload_n (pc := 60) dX1_strikeOut_60 rfl rfl ?_
      refine V_callV (pc := 61) (as := [_, _]) (rest := [_, _]) dX1_strikeOut_61 ⟨kX1_87, iX1_dueOfLine, by decide, by decide⟩ rc_19 rfl rfl (Nat.le_of_ble_eq_true rfl) (Nat.le_of_ble_eq_true rfl) ?_
      refine ct_X1_dueOfLine hW hC hx (by omega) h51.1 ?_
      show V_ _ _ _ _ _ _ [_, _, _] _
      refine V_iastN (pc := 64) dX1_strikeOut_64 gg_28 (by omega) (by decide) (by first | decide | (have := da_rg hW (i := i) (by omega) h51.1; have := hW.li (k := i) (by omega); constructor <;> omega)) ?_
      rw [show ms_ τ 28 i (da_ v i) = ms_ τ 28 i (du_ v i) from by unfold du_; rw [if_pos h51]]
      obtain ⟨τ2, hτ2⟩ : ∃ τ2, τ2 = ms_ τ 28 i (du_ v i) := ⟨_, rfl⟩
      rw [← hτ2]
      have wi := hW.li (k := i) (by omega)
      have hC2 : HC_ v τ2 := hC.cg (fun a b h1 h2 => by rw [hτ2, ms_rw (by omega)])
      have hb2 : ∀ q : Nat, (q : Int) < v 3 0 → τ2 27 q = bb_ v (q : Int) := fun q hq => by rw [hτ2, hτ, ms_nk (by decide), wr_nk (by decide), wr_nk (by decide), wr_in (by omega)]
      refine V_aload_n (pc := 65) dX1_strikeOut_65 rfl rfl ?_
      refine V_getr (pc := 66) dX1_strikeOut_66 fX1_39 rfl gg_19 rfl ?_
      refine V_iload_n (pc := 69) dX1_strikeOut_69 rfl rfl ?_
      refine V_iload_n (pc := 70) dX1_strikeOut_70 rfl rfl ?_
      refine V_if_eq (tgt := 78) (pc := 71) dX1_strikeOut_71 (by decide) (by first | assumption | decide | omega | exact ba_rg hR | exact b2_rg) (fun h71 => ?_) (fun h71 => by rw [b2_n0] at h71; exact absurd h51 h71)
      refine V_aload_n (pc := 78) dX1_strikeOut_78 rfl rfl ?_
      refine V_getr (pc := 79) dX1_strikeOut_79 fX1_33 rfl gg_19 rfl ?_
      refine V_aload_n (pc := 82) dX1_strikeOut_82 rfl rfl ?_
      refine V_getr (pc := 83) dX1_strikeOut_83 fX1_27 rfl gg_19 rfl ?_
      refine V_iload_n (pc := 86) dX1_strikeOut_86 rfl rfl ?_
      refine V_ialdN (pc := 87) dX1_strikeOut_87 gg_25 (by omega) (by decide) (fun r87 => ?_)
      rw [(hC2.li (k := i) (by omega)).2.1] at r87 ⊢
      refine V_iald (pc := 88) dX1_strikeOut_88 gg_27 ⟨by omega, by omega⟩ (by decide) (fun r88 => ?_)
      obtain ⟨q, hq⟩ := i_nat h51.2.1.1
      have hqn := h51.2.1.2
      rw [hq] at hqn
      rw [hq, show ((q : Int)).toNat = q from rfl, hb2 q hqn, ← hq] at r88 ⊢
      refine V_iastN (pc := 89) dX1_strikeOut_89 gg_10 (by omega) (by decide) (by first | decide | (have : -1 ≤ bb_ v (v 9 i) ∧ bb_ v (v 9 i) < v 3 0 := be_rg h51.2.1; constructor <;> omega)) ?_
      refine V_iinc (pc := 90) dX1_strikeOut_90 rfl (by decide) rfl ?_
      show V_ _ _ _ _ _ [_, _, _, _] _ _
      refine V_goto (tgt := 30) (pc := 93) dX1_strikeOut_93 (by decide) ?_
      refine V_none (k := 3) ?_
      show V_ _ _ _ _ _ [_, _, _, _] _ _
      exact V_cg (ih (by omega)) (by simp) rfl (by rw [hτ2, hτ, wr_ms (by decide), wr_s (c := 28) rfl, wr_s (c := 10) (by show _ = pp_ v i; unfold pp_; rw [if_pos h51])])
    · skip
      rw [b2_n0] at h51
      refine V_iconst (pc := 54) dX1_strikeOut_54 ?_
      refine V_goto (tgt := 64) (pc := 55) dX1_strikeOut_55 (by decide) ?_
      refine V_iastN (pc := 64) dX1_strikeOut_64 gg_28 (by omega) (by decide) (by first | decide | (have := da_rg hW (i := i) (by omega) h51.1; have := hW.li (k := i) (by omega); constructor <;> omega)) ?_
      rw [show ms_ τ 28 i 0 = ms_ τ 28 i (du_ v i) from by unfold du_; rw [if_neg h51]]
      obtain ⟨τ2, hτ2⟩ : ∃ τ2, τ2 = ms_ τ 28 i (du_ v i) := ⟨_, rfl⟩
      rw [← hτ2]
      have wi := hW.li (k := i) (by omega)
      have hC2 : HC_ v τ2 := hC.cg (fun a b h1 h2 => by rw [hτ2, ms_rw (by omega)])
      have hb2 : ∀ q : Nat, (q : Int) < v 3 0 → τ2 27 q = bb_ v (q : Int) := fun q hq => by rw [hτ2, hτ, ms_nk (by decide), wr_nk (by decide), wr_nk (by decide), wr_in (by omega)]
      refine V_aload_n (pc := 65) dX1_strikeOut_65 rfl rfl ?_
      refine V_getr (pc := 66) dX1_strikeOut_66 fX1_39 rfl gg_19 rfl ?_
      refine V_iload_n (pc := 69) dX1_strikeOut_69 rfl rfl ?_
      refine V_iload_n (pc := 70) dX1_strikeOut_70 rfl rfl ?_
      refine V_if_eq (tgt := 78) (pc := 71) dX1_strikeOut_71 (by decide) (by first | assumption | decide | omega | exact ba_rg hR | exact b2_rg) (fun h71 => by rw [b2_0] at h71; exact absurd (Decidable.not_not.mp h71) h51) (fun h71 => ?_)
      refine V_iconst (pc := 74) dX1_strikeOut_74 ?_
      refine V_goto (tgt := 89) (pc := 75) dX1_strikeOut_75 (by decide) ?_
      refine V_iastN (pc := 89) dX1_strikeOut_89 gg_10 (by omega) (by decide) (by first | decide | (have : -1 ≤ bb_ v (v 9 i) ∧ bb_ v (v 9 i) < v 3 0 := be_rg h51.2.1; constructor <;> omega)) ?_
      refine V_iinc (pc := 90) dX1_strikeOut_90 rfl (by decide) rfl ?_
      show V_ _ _ _ _ _ [_, _, _, _] _ _
      refine V_goto (tgt := 30) (pc := 93) dX1_strikeOut_93 (by decide) ?_
      refine V_none (k := 3) ?_
      show V_ _ _ _ _ _ [_, _, _, _] _ _
      exact V_cg (ih (by omega)) (by simp) rfl (by rw [hτ2, hτ, wr_ms (by decide), wr_s (c := 28) rfl, wr_s (c := 10) (by show _ = pp_ v i; unfold pp_; rw [if_neg h51])])
theorem lp_X1_strikeOut {x : Int} (hW : WF_ v) (hC : HC_ v σ) (hx : x = v 11 0) (h : post none (wr_ (wr_ (wr_ σ 27 (fun k => bb_ v (k : Int)) (v 3 0).toNat) 28 (fun k => du_ v k) (v 7 0).toNat) 10 (fun k => pp_ v k) (v 7 0).toNat)) : ∀ i : Nat, i ≤ (v 3 0).toNat → V_ l D mX1_strikeOut (CM_ D mX1_strikeOut post) 2 [some (vr_ 19), some (vi_ x), some (vi_ (i : Int)), none] [] (wr_ σ 27 (fun k => bb_ v (k : Int)) i) := by
  have wn := hW.n
  have hn : ((v 3 0).toNat : Int) = v 3 0 := Int.toNat_of_nonneg wn.1
  refine up_ _ (fun i hi ih => ?_)
  obtain ⟨τ, hτ⟩ : ∃ τ, τ = wr_ σ 27 (fun k => bb_ v (k : Int)) i := ⟨_, rfl⟩
  rw [← hτ]
  have hC0 := hC
  have hC : HC_ v τ := hC0.cg (fun a b h1 h2 => by rw [hτ, wr_rw (by omega)])
  refine V_iload_n (pc := 2) dX1_strikeOut_2 rfl rfl ?_
  refine V_aload_n (pc := 3) dX1_strikeOut_3 rfl rfl ?_
  refine V_geti (pc := 4) dX1_strikeOut_4 fX1_46 rfl gg_19 rfl (fun r4 => ?_)
  rw [hC.2.1]
  refine V_icmp_ge (tgt := 28) (pc := 7) dX1_strikeOut_7 (by decide) (by first | assumption | decide | omega | exact ba_rg hR | exact b2_rg) (by first | assumption | decide | omega | exact ba_rg hR | exact b2_rg) (fun h7 => ?_) (fun h7 => ?_)
  · skip
    refine V_iconst (pc := 28) dX1_strikeOut_28 ?_
    refine V_istore_n (pc := 29) dX1_strikeOut_29 rfl (by decide) rfl ?_
    show V_ _ _ _ _ _ [_, _, _, _] _ _
    exact V_cg (lq_X1_strikeOut hW hC0 hx h 0 (Nat.zero_le _)) (by simp) rfl (by rw [hτ, wr_0, wr_0, show i = (v 3 0).toNat by omega])
  · skip
    refine V_aload_n (pc := 10) dX1_strikeOut_10 rfl rfl ?_
    refine V_getr (pc := 11) dX1_strikeOut_11 fX1_33 rfl gg_19 rfl ?_
    refine V_iload_n (pc := 14) dX1_strikeOut_14 rfl rfl ?_
    refine V_aload_n (pc := 15) dX1_strikeOut_15 rfl rfl ?_
    refine V_iload_n (pc := 16) dX1_strikeOut_16 rfl rfl ?_
    refine V_iload_n (pc := 17) dX1_strikeOut_17 rfl rfl ?_
    refine V_callV (pc := 18) (as := [_, _]) (rest := [_, _]) dX1_strikeOut_18 ⟨kX1_80, iX1_bearerOf, by decide, by decide⟩ rc_19 rfl rfl (Nat.le_of_ble_eq_true rfl) (Nat.le_of_ble_eq_true rfl) ?_
    refine ct_X1_bearerOf hW hC hx ⟨by omega, by omega⟩ ?_
    show V_ _ _ _ _ _ _ [_, _, _] _
    refine V_iastN (pc := 21) dX1_strikeOut_21 gg_27 (by omega) (by decide) (by have : -1 ≤ bb_ v (i : Int) ∧ bb_ v (i : Int) < v 3 0 := be_rg ⟨by omega, by omega⟩; constructor <;> omega) ?_
    refine V_iinc (pc := 22) dX1_strikeOut_22 rfl (by decide) rfl ?_
    show V_ _ _ _ _ _ [_, _, _, _] _ _
    refine V_goto (tgt := 2) (pc := 25) dX1_strikeOut_25 (by decide) ?_
    exact V_cg (ih (by omega)) (by simp) rfl (by rw [hτ, wr_s rfl])
theorem ct_X1_strikeOut {x : Int} (hW : WF_ v) (hC : HC_ v σ) (hx : x = v 11 0) (h : post none (wr_ (wr_ (wr_ σ 27 (fun k => bb_ v (k : Int)) (v 3 0).toNat) 28 (fun k => du_ v k) (v 7 0).toNat) 10 (fun k => pp_ v k) (v 7 0).toNat)) : V_ l D mX1_strikeOut (CM_ D mX1_strikeOut post) 0 [some (vr_ 19), some (vi_ x), none, none] [] σ := by
  refine V_iconst (pc := 0) dX1_strikeOut_0 ?_
  refine V_istore_n (pc := 1) dX1_strikeOut_1 rfl (by decide) rfl ?_
  show V_ _ _ _ _ _ [_, _, _, _] _ _
  exact V_cg (lp_X1_strikeOut hW hC hx h 0 (Nat.zero_le _)) (by simp) rfl (by rw [wr_0])
theorem lp_X1_namesBorneBy {k : Int} (hW : WF_ v) (hC : HC_ v σ) (hD : HD_ v σ) (hk : Rg_ k) (h : post (some (vi_ (bs_ (fun j => decide (bb_ v (j : Int) = k)) (v 3 0).toNat))) σ) : ∀ i : Nat, i ≤ (v 3 0).toNat → V_ l D mX1_namesBorneBy (CM_ D mX1_namesBorneBy post) 4 [some (vr_ 19), some (vi_ k), some (vi_ (bs_ (fun j => decide (bb_ v (j : Int) = k)) i)), some (vi_ (i : Int))] [] σ := by
  have wn := hW.n
  have hn : ((v 3 0).toNat : Int) = v 3 0 := Int.toNat_of_nonneg wn.1
  refine up_ _ (fun i hi ih => ?_)
  have hb := bs_rg (fun j => decide (bb_ v (j : Int) = k)) i
  have q7 : ((2 ^ i : Nat) : Int) ≤ 256 := by
    have : 2 ^ i ≤ 2 ^ 8 := Nat.pow_le_pow_right (by decide) (by omega)
    omega
  refine V_iload_n (pc := 4) dX1_namesBorneBy_4 rfl rfl ?_
  refine V_aload_n (pc := 5) dX1_namesBorneBy_5 rfl rfl ?_
  refine V_geti (pc := 6) dX1_namesBorneBy_6 fX1_46 rfl gg_19 rfl (fun r6 => ?_)
  rw [hC.2.1]
  refine V_icmp_ge (tgt := 38) (pc := 9) dX1_namesBorneBy_9 (by decide) (by first | assumption | decide | omega | exact ba_rg hR | exact b2_rg) (by first | assumption | decide | omega | exact ba_rg hR | exact b2_rg) (fun h9 => ?_) (fun h9 => ?_)
  · skip
    refine V_iload_n (pc := 38) dX1_namesBorneBy_38 rfl rfl ?_
    refine V_ireturn (pc := 39) dX1_namesBorneBy_39 rfl rfl (fun hR => ?_)
    rw [show i = (v 3 0).toNat by omega]; exact h
  · skip
    refine V_iload_n (pc := 12) dX1_namesBorneBy_12 rfl rfl ?_
    refine V_aload_n (pc := 13) dX1_namesBorneBy_13 rfl rfl ?_
    refine V_getr (pc := 14) dX1_namesBorneBy_14 fX1_33 rfl gg_19 rfl ?_
    refine V_iload_n (pc := 17) dX1_namesBorneBy_17 rfl rfl ?_
    refine V_ialdN (pc := 18) dX1_namesBorneBy_18 gg_27 (by omega) (by decide) (fun r18 => ?_)
    rw [hD.1 i (by omega)] at r18 ⊢
    refine V_iload_n (pc := 19) dX1_namesBorneBy_19 rfl rfl ?_
    refine V_icmp_ne (tgt := 29) (pc := 20) dX1_namesBorneBy_20 (by decide) (by first | assumption | decide | omega | exact ba_rg hR | exact b2_rg) (by first | assumption | decide | omega | exact ba_rg hR | exact b2_rg) (fun h20 => ?_) (fun h20 => ?_)
    · skip
      have e0 : bs_ (fun j => decide (bb_ v (j : Int) = k)) (i + 1) = bs_ (fun j => decide (bb_ v (j : Int) = k)) i := by show (if _ then _ else _) = _; rw [if_neg (by simp only [decide_eq_true_eq]; exact h20)]
      refine V_iconst (pc := 29) dX1_namesBorneBy_29 ?_
      refine V_ior (pc := 30) dX1_namesBorneBy_30 ?_
      refine V_istore_n (pc := 31) dX1_namesBorneBy_31 rfl (by decide) rfl ?_
      show V_ _ _ _ _ _ [_, _, _, _] _ _
      refine V_iinc (pc := 32) dX1_namesBorneBy_32 rfl (by decide) rfl ?_
      show V_ _ _ _ _ _ [_, _, _, _] _ _
      refine V_goto (tgt := 4) (pc := 35) dX1_namesBorneBy_35 (by decide) ?_
      exact V_cg (ih (by omega)) (by rw [e0]; (first | rw [or_0 (by omega)] | rw [bit_or (by omega) (by omega)]); simp) rfl rfl
    · skip
      have e0 : bs_ (fun j => decide (bb_ v (j : Int) = k)) (i + 1) = so_ (bs_ (fun j => decide (bb_ v (j : Int) = k)) i) i := by show (if _ then _ else _) = _; rw [if_pos (by simp only [decide_eq_true_eq]; exact h20)]
      refine V_iconst (pc := 23) dX1_namesBorneBy_23 ?_
      refine V_iload_n (pc := 24) dX1_namesBorneBy_24 rfl rfl ?_
      refine V_ishl (pc := 25) dX1_namesBorneBy_25 ?_
      refine V_goto (tgt := 30) (pc := 26) dX1_namesBorneBy_26 (by decide) ?_
      refine V_ior (pc := 30) dX1_namesBorneBy_30 ?_
      refine V_istore_n (pc := 31) dX1_namesBorneBy_31 rfl (by decide) rfl ?_
      show V_ _ _ _ _ _ [_, _, _, _] _ _
      refine V_iinc (pc := 32) dX1_namesBorneBy_32 rfl (by decide) rfl ?_
      show V_ _ _ _ _ _ [_, _, _, _] _ _
      refine V_goto (tgt := 4) (pc := 35) dX1_namesBorneBy_35 (by decide) ?_
      exact V_cg (ih (by omega)) (by rw [e0]; (first | rw [or_0 (by omega)] | rw [bit_or (by omega) (by omega)]); simp) rfl rfl
theorem ct_X1_namesBorneBy {k : Int} (hW : WF_ v) (hC : HC_ v σ) (hD : HD_ v σ) (hk : Rg_ k) (h : post (some (vi_ (bs_ (fun j => decide (bb_ v (j : Int) = k)) (v 3 0).toNat))) σ) : V_ l D mX1_namesBorneBy (CM_ D mX1_namesBorneBy post) 0 [some (vr_ 19), some (vi_ k), none, none] [] σ := by
  refine V_iconst (pc := 0) dX1_namesBorneBy_0 ?_
  refine V_istore_n (pc := 1) dX1_namesBorneBy_1 rfl (by decide) rfl ?_
  show V_ _ _ _ _ _ [_, _, _, _] _ _
  refine V_iconst (pc := 2) dX1_namesBorneBy_2 ?_
  refine V_istore_n (pc := 3) dX1_namesBorneBy_3 rfl (by decide) rfl ?_
  show V_ _ _ _ _ _ [_, _, _, _] _ _
  exact V_cg (lp_X1_namesBorneBy hW hC hD hk h 0 (Nat.zero_le _)) (by simp [bs_]) rfl rfl
theorem lp_X1_dueOf {s k : Int} (hW : WF_ v) (hC : HC_ v σ) (hD : HD_ v σ) (hs : Rg_ s) (hk : Rg_ k) (h : post (some (vi_ (bo_ v s k (v 7 0).toNat))) σ) : ∀ i : Nat, i ≤ (v 7 0).toNat → V_ l D mX1_dueOf (CM_ D mX1_dueOf post) 5 [some (vr_ 19), some (vi_ s), some (vi_ k), some (vi_ (bo_ v s k i)), some (vi_ (i : Int))] [] σ := by
  have wl := hW.l
  have wn := hW.n
  have hn : ((v 7 0).toNat : Int) = v 7 0 := Int.toNat_of_nonneg wl.1
  refine up_ _ (fun i hi ih => ?_)
  have hb := bo_rg hW (s := s) (k := k) (n := i) (by omega)
  refine V_iload (pc := 5) dX1_dueOf_5 rfl ?_
  refine V_aload_n (pc := 7) dX1_dueOf_7 rfl rfl ?_
  refine V_geti (pc := 8) dX1_dueOf_8 fX1_49 rfl gg_19 rfl (fun r8 => ?_)
  rw [hC.2.2.1]
  refine V_icmp_ge (tgt := 56) (pc := 11) dX1_dueOf_11 (by decide) (by first | assumption | decide | omega | exact ba_rg hR | exact b2_rg) (by first | assumption | decide | omega | exact ba_rg hR | exact b2_rg) (fun h11 => ?_) (fun h11 => ?_)
  · skip
    refine V_iload_n (pc := 56) dX1_dueOf_56 rfl rfl ?_
    refine V_ireturn (pc := 57) dX1_dueOf_57 rfl rfl (fun hR => ?_)
    rw [show i = (v 7 0).toNat by omega]; exact h
  · skip
    have wd := du_rg hW (i := i) (by omega)
    have wi := hW.li (k := i) (by omega)
    refine V_iload_n (pc := 14) dX1_dueOf_14 rfl rfl ?_
    refine V_aload_n (pc := 15) dX1_dueOf_15 rfl rfl ?_
    refine V_getr (pc := 16) dX1_dueOf_16 fX1_24 rfl gg_19 rfl ?_
    refine V_iload (pc := 19) dX1_dueOf_19 rfl ?_
    refine V_ialdN (pc := 21) dX1_dueOf_21 gg_24 (by omega) (by decide) (fun r21 => ?_)
    rw [(hC.li (k := i) (by omega)).1] at r21 ⊢
    refine V_iload_n (pc := 22) dX1_dueOf_22 rfl rfl ?_
    refine V_icmp_ne (tgt := 47) (pc := 23) dX1_dueOf_23 (by decide) (by first | assumption | decide | omega | exact ba_rg hR | exact b2_rg) (by first | assumption | decide | omega | exact ba_rg hR | exact b2_rg) (fun h23 => ?_) (fun h23 => ?_)
    · skip
      have e0 : (if v 8 i = s ∧ sd_ v i ∧ bb_ v (v 9 i) = k then du_ v i else 0) = 0 := if_neg (fun z => h23 z.1)
      refine V_iconst (pc := 47) dX1_dueOf_47 ?_
      refine V_iadd (pc := 48) dX1_dueOf_48 ?_
      refine V_istore_n (pc := 49) dX1_dueOf_49 rfl (by decide) rfl ?_
      show V_ _ _ _ _ _ [_, _, _, _, _] _ _
      refine V_iinc (pc := 50) dX1_dueOf_50 rfl (by decide) rfl ?_
      show V_ _ _ _ _ _ [_, _, _, _, _] _ _
      refine V_goto (tgt := 5) (pc := 53) dX1_dueOf_53 (by decide) ?_
      exact V_cg (ih (by omega)) (by simp only [bo_, sm_]; rw [e0]; simp) rfl rfl
    · skip
      refine V_aload_n (pc := 26) dX1_dueOf_26 rfl rfl ?_
      refine V_getr (pc := 27) dX1_dueOf_27 fX1_39 rfl gg_19 rfl ?_
      refine V_iload (pc := 30) dX1_dueOf_30 rfl ?_
      refine V_ialdN (pc := 32) dX1_dueOf_32 gg_10 (by omega) (by decide) (fun r32 => ?_)
      rw [hD.2.2 i (by omega)] at r32 ⊢
      refine V_iload_n (pc := 33) dX1_dueOf_33 rfl rfl ?_
      refine V_icmp_ne (tgt := 47) (pc := 34) dX1_dueOf_34 (by decide) (by first | assumption | decide | omega | exact ba_rg hR | exact b2_rg) (by first | assumption | decide | omega | exact ba_rg hR | exact b2_rg) (fun h34 => ?_) (fun h34 => ?_)
      · skip
        have e0 : (if v 8 i = s ∧ sd_ v i ∧ bb_ v (v 9 i) = k then du_ v i else 0) = 0 := if_neg (fun z => h34 (by unfold pp_; rw [if_pos z.2.1]; exact z.2.2))
        refine V_iconst (pc := 47) dX1_dueOf_47 ?_
        refine V_iadd (pc := 48) dX1_dueOf_48 ?_
        refine V_istore_n (pc := 49) dX1_dueOf_49 rfl (by decide) rfl ?_
        show V_ _ _ _ _ _ [_, _, _, _, _] _ _
        refine V_iinc (pc := 50) dX1_dueOf_50 rfl (by decide) rfl ?_
        show V_ _ _ _ _ _ [_, _, _, _, _] _ _
        refine V_goto (tgt := 5) (pc := 53) dX1_dueOf_53 (by decide) ?_
        exact V_cg (ih (by omega)) (by simp only [bo_, sm_]; rw [e0]; simp) rfl rfl
      · skip
        have e0 : (if v 8 i = s ∧ sd_ v i ∧ bb_ v (v 9 i) = k then du_ v i else 0) = du_ v i := by
          by_cases c : sd_ v i
          · unfold pp_ at h34
            rw [if_pos c] at h34
            exact if_pos ⟨h23, c, h34⟩
          · rw [if_neg (fun z => c z.2.1)]
            unfold du_
            rw [if_neg c]
        refine V_aload_n (pc := 37) dX1_dueOf_37 rfl rfl ?_
        refine V_getr (pc := 38) dX1_dueOf_38 fX1_36 rfl gg_19 rfl ?_
        refine V_iload (pc := 41) dX1_dueOf_41 rfl ?_
        refine V_ialdN (pc := 43) dX1_dueOf_43 gg_28 (by omega) (by decide) (fun r43 => ?_)
        rw [hD.2.1 i (by omega)] at r43 ⊢
        refine V_goto (tgt := 48) (pc := 44) dX1_dueOf_44 (by decide) ?_
        refine V_iadd (pc := 48) dX1_dueOf_48 ?_
        refine V_istore_n (pc := 49) dX1_dueOf_49 rfl (by decide) rfl ?_
        show V_ _ _ _ _ _ [_, _, _, _, _] _ _
        refine V_iinc (pc := 50) dX1_dueOf_50 rfl (by decide) rfl ?_
        show V_ _ _ _ _ _ [_, _, _, _, _] _ _
        refine V_goto (tgt := 5) (pc := 53) dX1_dueOf_53 (by decide) ?_
        exact V_cg (ih (by omega)) (by simp only [bo_, sm_]; rw [e0]; simp) rfl rfl
theorem ct_X1_dueOf {s k : Int} (hW : WF_ v) (hC : HC_ v σ) (hD : HD_ v σ) (hs : Rg_ s) (hk : Rg_ k) (h : post (some (vi_ (bo_ v s k (v 7 0).toNat))) σ) : V_ l D mX1_dueOf (CM_ D mX1_dueOf post) 0 [some (vr_ 19), some (vi_ s), some (vi_ k), none, none] [] σ := by
  refine V_iconst (pc := 0) dX1_dueOf_0 ?_
  refine V_istore_n (pc := 1) dX1_dueOf_1 rfl (by decide) rfl ?_
  show V_ _ _ _ _ _ [_, _, _, _, _] _ _
  refine V_iconst (pc := 2) dX1_dueOf_2 ?_
  refine V_istore (pc := 3) dX1_dueOf_3 (by decide) rfl ?_
  show V_ _ _ _ _ _ [_, _, _, _, _] _ _
  exact V_cg (lp_X1_dueOf hW hC hD hs hk h 0 (Nat.zero_le _)) (by simp [bo_, sm_]) rfl rfl
theorem lp_X1_dueOfAllShips {k : Int} (hW : WF_ v) (hC : HC_ v σ) (hD : HD_ v σ) (hk : Rg_ k) (h : post (some (vi_ (bt2_ v k (v 0 0).toNat))) σ) : ∀ i : Nat, i ≤ (v 0 0).toNat → V_ l D mX1_dueOfAllShips (CM_ D mX1_dueOfAllShips post) 4 [some (vr_ 19), some (vi_ k), some (vi_ (bt2_ v k i)), some (vi_ (i : Int))] [] σ := by
  have ws := hW.s
  have hn : ((v 0 0).toNat : Int) = v 0 0 := Int.toNat_of_nonneg ws.1
  refine up_ _ (fun i hi ih => ?_)
  have hb := bt2_rg hW (k := k) (n := i) (by omega)
  refine V_iload_n (pc := 4) dX1_dueOfAllShips_4 rfl rfl ?_
  refine V_aload_n (pc := 5) dX1_dueOfAllShips_5 rfl rfl ?_
  refine V_geti (pc := 6) dX1_dueOfAllShips_6 fX1_42 rfl gg_19 rfl (fun r6 => ?_)
  rw [hC.1]
  refine V_icmp_ge (tgt := 27) (pc := 9) dX1_dueOfAllShips_9 (by decide) (by first | assumption | decide | omega | exact ba_rg hR | exact b2_rg) (by first | assumption | decide | omega | exact ba_rg hR | exact b2_rg) (fun h9 => ?_) (fun h9 => ?_)
  · skip
    refine V_iload_n (pc := 27) dX1_dueOfAllShips_27 rfl rfl ?_
    refine V_ireturn (pc := 28) dX1_dueOfAllShips_28 rfl rfl (fun hR => ?_)
    rw [show i = (v 0 0).toNat by omega]; exact h
  · skip
    refine V_iload_n (pc := 12) dX1_dueOfAllShips_12 rfl rfl ?_
    refine V_aload_n (pc := 13) dX1_dueOfAllShips_13 rfl rfl ?_
    refine V_iload_n (pc := 14) dX1_dueOfAllShips_14 rfl rfl ?_
    refine V_iload_n (pc := 15) dX1_dueOfAllShips_15 rfl rfl ?_
    refine V_callV (pc := 16) (as := [_, _]) (rest := [_]) dX1_dueOfAllShips_16 ⟨kX1_97, iX1_dueOf, by decide, by decide⟩ rc_19 rfl rfl (Nat.le_of_ble_eq_true rfl) (Nat.le_of_ble_eq_true rfl) ?_
    refine ct_X1_dueOf hW hC hD ⟨by omega, by omega⟩ hk ?_
    show V_ _ _ _ _ _ _ [_, _] _
    refine V_iadd (pc := 19) dX1_dueOfAllShips_19 ?_
    refine V_istore_n (pc := 20) dX1_dueOfAllShips_20 rfl (by decide) rfl ?_
    show V_ _ _ _ _ _ [_, _, _, _] _ _
    refine V_iinc (pc := 21) dX1_dueOfAllShips_21 rfl (by decide) rfl ?_
    show V_ _ _ _ _ _ [_, _, _, _] _ _
    refine V_goto (tgt := 4) (pc := 24) dX1_dueOfAllShips_24 (by decide) ?_
    exact V_cg (ih (by omega)) (by simp only [bt2_, sm_]; simp) rfl rfl
theorem ct_X1_dueOfAllShips {k : Int} (hW : WF_ v) (hC : HC_ v σ) (hD : HD_ v σ) (hk : Rg_ k) (h : post (some (vi_ (bt2_ v k (v 0 0).toNat))) σ) : V_ l D mX1_dueOfAllShips (CM_ D mX1_dueOfAllShips post) 0 [some (vr_ 19), some (vi_ k), none, none] [] σ := by
  refine V_iconst (pc := 0) dX1_dueOfAllShips_0 ?_
  refine V_istore_n (pc := 1) dX1_dueOfAllShips_1 rfl (by decide) rfl ?_
  show V_ _ _ _ _ _ [_, _, _, _] _ _
  refine V_iconst (pc := 2) dX1_dueOfAllShips_2 ?_
  refine V_istore_n (pc := 3) dX1_dueOfAllShips_3 rfl (by decide) rfl ?_
  show V_ _ _ _ _ _ [_, _, _, _] _ _
  exact V_cg (lp_X1_dueOfAllShips hW hC hD hk h 0 (Nat.zero_le _)) (by simp [bt2_, sm_]) rfl rfl
theorem lp_X1_hasTogether {set : Int} (hW : WF_ v) (hC : HC_ v σ) (hs : 0 ≤ set ∧ set ≤ 255) (h : post (some (vi_ (hs_ v set (v 3 0).toNat))) σ) : ∀ i : Nat, i ≤ (v 3 0).toNat → V_ l D mX1_hasTogether (CM_ D mX1_hasTogether post) 4 [some (vr_ 19), some (vi_ set), some (vi_ (hs_ v set i)), some (vi_ (i : Int))] [] σ := by
  have wn := hW.n
  have hn : ((v 3 0).toNat : Int) = v 3 0 := Int.toNat_of_nonneg wn.1
  refine up_ _ (fun i hi ih => ?_)
  have hb := hs_rg hW (set := set) (n := i) (by omega)
  refine V_iload_n (pc := 4) dX1_hasTogether_4 rfl rfl ?_
  refine V_aload_n (pc := 5) dX1_hasTogether_5 rfl rfl ?_
  refine V_geti (pc := 6) dX1_hasTogether_6 fX1_46 rfl gg_19 rfl (fun r6 => ?_)
  rw [hC.2.1]
  refine V_icmp_ge (tgt := 40) (pc := 9) dX1_hasTogether_9 (by decide) (by first | assumption | decide | omega | exact ba_rg hR | exact b2_rg) (by first | assumption | decide | omega | exact ba_rg hR | exact b2_rg) (fun h9 => ?_) (fun h9 => ?_)
  · skip
    refine V_iload_n (pc := 40) dX1_hasTogether_40 rfl rfl ?_
    refine V_ireturn (pc := 41) dX1_hasTogether_41 rfl rfl (fun hR => ?_)
    rw [show i = (v 3 0).toNat by omega]; exact h
  · skip
    refine V_iload_n (pc := 12) dX1_hasTogether_12 rfl rfl ?_
    refine V_iload_n (pc := 13) dX1_hasTogether_13 rfl rfl ?_
    refine V_iload_n (pc := 14) dX1_hasTogether_14 rfl rfl ?_
    refine V_ishr (pc := 15) dX1_hasTogether_15 ?_
    refine V_iconst (pc := 16) dX1_hasTogether_16 ?_
    refine V_iand (pc := 17) dX1_hasTogether_17 ?_
    rw [bit_b2 (by omega) (by omega)]
    refine V_iconst (pc := 18) dX1_hasTogether_18 ?_
    refine V_icmp_ne (tgt := 31) (pc := 19) dX1_hasTogether_19 (by decide) (by first | assumption | decide | omega | exact ba_rg hR | exact b2_rg) (by first | assumption | decide | omega | exact ba_rg hR | exact b2_rg) (fun h19 => ?_) (fun h19 => ?_)
    · skip
      rw [b2_n1] at h19
      have e0 : (if bt_ set (i : Int) = true then v 4 i else 0) = 0 := if_neg h19
      refine V_iconst (pc := 31) dX1_hasTogether_31 ?_
      refine V_iadd (pc := 32) dX1_hasTogether_32 ?_
      refine V_istore_n (pc := 33) dX1_hasTogether_33 rfl (by decide) rfl ?_
      show V_ _ _ _ _ _ [_, _, _, _] _ _
      refine V_iinc (pc := 34) dX1_hasTogether_34 rfl (by decide) rfl ?_
      show V_ _ _ _ _ _ [_, _, _, _] _ _
      refine V_goto (tgt := 4) (pc := 37) dX1_hasTogether_37 (by decide) ?_
      exact V_cg (ih (by omega)) (by simp only [hs_, sm_]; rw [e0]; simp) rfl rfl
    · skip
      rw [b2_1] at h19
      have e0 : (if bt_ set (i : Int) = true then v 4 i else 0) = v 4 i := if_pos h19
      refine V_aload_n (pc := 22) dX1_hasTogether_22 rfl rfl ?_
      refine V_getr (pc := 23) dX1_hasTogether_23 fX1_18 rfl gg_19 rfl ?_
      refine V_iload_n (pc := 26) dX1_hasTogether_26 rfl rfl ?_
      refine V_ialdN (pc := 27) dX1_hasTogether_27 gg_22 (by omega) (by decide) (fun r27 => ?_)
      rw [(hC.ni (k := i) (by omega)).1] at r27 ⊢
      refine V_goto (tgt := 32) (pc := 28) dX1_hasTogether_28 (by decide) ?_
      refine V_iadd (pc := 32) dX1_hasTogether_32 ?_
      refine V_istore_n (pc := 33) dX1_hasTogether_33 rfl (by decide) rfl ?_
      show V_ _ _ _ _ _ [_, _, _, _] _ _
      refine V_iinc (pc := 34) dX1_hasTogether_34 rfl (by decide) rfl ?_
      show V_ _ _ _ _ _ [_, _, _, _] _ _
      refine V_goto (tgt := 4) (pc := 37) dX1_hasTogether_37 (by decide) ?_
      exact V_cg (ih (by omega)) (by simp only [hs_, sm_]; rw [e0]; simp) rfl rfl
theorem ct_X1_hasTogether {set : Int} (hW : WF_ v) (hC : HC_ v σ) (hs : 0 ≤ set ∧ set ≤ 255) (h : post (some (vi_ (hs_ v set (v 3 0).toNat))) σ) : V_ l D mX1_hasTogether (CM_ D mX1_hasTogether post) 0 [some (vr_ 19), some (vi_ set), none, none] [] σ := by
  refine V_iconst (pc := 0) dX1_hasTogether_0 ?_
  refine V_istore_n (pc := 1) dX1_hasTogether_1 rfl (by decide) rfl ?_
  show V_ _ _ _ _ _ [_, _, _, _] _ _
  refine V_iconst (pc := 2) dX1_hasTogether_2 ?_
  refine V_istore_n (pc := 3) dX1_hasTogether_3 rfl (by decide) rfl ?_
  show V_ _ _ _ _ _ [_, _, _, _] _ _
  exact V_cg (lp_X1_hasTogether hW hC hs h 0 (Nat.zero_le _)) (by simp [hs_, sm_]) rfl rfl
theorem lp_X1_chancesOf {set : Int} (hW : WF_ v) (hC : HC_ v σ) (hs : 0 ≤ set ∧ set ≤ 255) (h : post (some (vi_ (ch_ v set (v 0 0).toNat))) σ) : ∀ i : Nat, i ≤ (v 0 0).toNat → V_ l D mX1_chancesOf (CM_ D mX1_chancesOf post) 4 [some (vr_ 19), some (vi_ set), some (vi_ (ch_ v set i)), some (vi_ (i : Int)), none] [] σ := by
  have ws := hW.s
  have hn : ((v 0 0).toNat : Int) = v 0 0 := Int.toNat_of_nonneg ws.1
  refine up_ _ (fun i hi ih => ?_)
  refine V_iload_n (pc := 4) dX1_chancesOf_4 rfl rfl ?_
  refine V_aload_n (pc := 5) dX1_chancesOf_5 rfl rfl ?_
  refine V_geti (pc := 6) dX1_chancesOf_6 fX1_42 rfl gg_19 rfl (fun r6 => ?_)
  rw [hC.1]
  refine V_icmp_ge (tgt := 60) (pc := 9) dX1_chancesOf_9 (by decide) (by first | assumption | decide | omega | exact ba_rg hR | exact b2_rg) (by first | assumption | decide | omega | exact ba_rg hR | exact b2_rg) (fun h9 => ?_) (fun h9 => ?_)
  · skip
    refine V_iload_n (pc := 60) dX1_chancesOf_60 rfl rfl ?_
    refine V_ireturn (pc := 61) dX1_chancesOf_61 rfl rfl (fun hR => ?_)
    rw [show i = (v 0 0).toNat by omega]; exact h
  · skip
    refine V_iload_n (pc := 12) dX1_chancesOf_12 rfl rfl ?_
    refine V_iload_n (pc := 13) dX1_chancesOf_13 rfl rfl ?_
    refine V_ishr (pc := 14) dX1_chancesOf_14 ?_
    refine V_iconst (pc := 15) dX1_chancesOf_15 ?_
    refine V_iand (pc := 16) dX1_chancesOf_16 ?_
    rw [bit_b2 (by omega) (by omega)]
    refine V_iconst (pc := 17) dX1_chancesOf_17 ?_
    refine V_icmp_ne (tgt := 25) (pc := 18) dX1_chancesOf_18 (by decide) (by first | assumption | decide | omega | exact ba_rg hR | exact b2_rg) (by first | assumption | decide | omega | exact ba_rg hR | exact b2_rg) (fun h18 => ?_) (fun h18 => ?_)
    · skip
      rw [b2_n1] at h18
      have e0 : (if bt_ set (i : Int) = true then v 2 i else 16 - v 2 i) = 16 - v 2 i := if_neg h18
      refine V_iconst (pc := 25) dX1_chancesOf_25 ?_
      refine V_istore (pc := 26) dX1_chancesOf_26 (by decide) rfl ?_
      show V_ _ _ _ _ _ [_, _, _, _, _] _ _
      refine V_iload_n (pc := 28) dX1_chancesOf_28 rfl rfl ?_
      refine V_iload (pc := 29) dX1_chancesOf_29 rfl ?_
      refine V_if_eq (tgt := 43) (pc := 31) dX1_chancesOf_31 (by decide) (by first | assumption | decide | omega | exact ba_rg hR | exact b2_rg) (fun h31 => ?_) (fun h31 => by exact absurd h31 (by decide))
      refine V_bipush (pc := 43) dX1_chancesOf_43 (by decide) ?_
      refine V_aload_n (pc := 45) dX1_chancesOf_45 rfl rfl ?_
      refine V_getr (pc := 46) dX1_chancesOf_46 fX1_15 rfl gg_19 rfl ?_
      refine V_iload_n (pc := 49) dX1_chancesOf_49 rfl rfl ?_
      refine V_ialdN (pc := 50) dX1_chancesOf_50 gg_21 (by omega) (by decide) (fun r50 => ?_)
      rw [(hC.si (k := i) (by omega)).2] at r50 ⊢
      refine V_isub (pc := 51) dX1_chancesOf_51 ?_
      refine V_imul (pc := 52) dX1_chancesOf_52 ?_
      refine V_istore_n (pc := 53) dX1_chancesOf_53 rfl (by decide) rfl ?_
      show V_ _ _ _ _ _ [_, _, _, _, _] _ _
      refine V_iinc (pc := 54) dX1_chancesOf_54 rfl (by decide) rfl ?_
      show V_ _ _ _ _ _ [_, _, _, _, _] _ _
      refine V_goto (tgt := 4) (pc := 57) dX1_chancesOf_57 (by decide) ?_
      refine V_none (k := 4) ?_
      show V_ _ _ _ _ _ [_, _, _, _, _] _ _
      exact V_cg (ih (by omega)) (by simp only [ch_]; rw [e0]; simp) rfl rfl
    · skip
      rw [b2_1] at h18
      have e0 : (if bt_ set (i : Int) = true then v 2 i else 16 - v 2 i) = v 2 i := if_pos h18
      refine V_iconst (pc := 21) dX1_chancesOf_21 ?_
      refine V_goto (tgt := 26) (pc := 22) dX1_chancesOf_22 (by decide) ?_
      refine V_istore (pc := 26) dX1_chancesOf_26 (by decide) rfl ?_
      show V_ _ _ _ _ _ [_, _, _, _, _] _ _
      refine V_iload_n (pc := 28) dX1_chancesOf_28 rfl rfl ?_
      refine V_iload (pc := 29) dX1_chancesOf_29 rfl ?_
      refine V_if_eq (tgt := 43) (pc := 31) dX1_chancesOf_31 (by decide) (by first | assumption | decide | omega | exact ba_rg hR | exact b2_rg) (fun h31 => by exact absurd h31 (by decide)) (fun h31 => ?_)
      refine V_aload_n (pc := 34) dX1_chancesOf_34 rfl rfl ?_
      refine V_getr (pc := 35) dX1_chancesOf_35 fX1_15 rfl gg_19 rfl ?_
      refine V_iload_n (pc := 38) dX1_chancesOf_38 rfl rfl ?_
      refine V_ialdN (pc := 39) dX1_chancesOf_39 gg_21 (by omega) (by decide) (fun r39 => ?_)
      rw [(hC.si (k := i) (by omega)).2] at r39 ⊢
      refine V_goto (tgt := 52) (pc := 40) dX1_chancesOf_40 (by decide) ?_
      refine V_imul (pc := 52) dX1_chancesOf_52 ?_
      refine V_istore_n (pc := 53) dX1_chancesOf_53 rfl (by decide) rfl ?_
      show V_ _ _ _ _ _ [_, _, _, _, _] _ _
      refine V_iinc (pc := 54) dX1_chancesOf_54 rfl (by decide) rfl ?_
      show V_ _ _ _ _ _ [_, _, _, _, _] _ _
      refine V_goto (tgt := 4) (pc := 57) dX1_chancesOf_57 (by decide) ?_
      refine V_none (k := 4) ?_
      show V_ _ _ _ _ _ [_, _, _, _, _] _ _
      exact V_cg (ih (by omega)) (by simp only [ch_]; rw [e0]; simp) rfl rfl
theorem ct_X1_chancesOf {set : Int} (hW : WF_ v) (hC : HC_ v σ) (hs : 0 ≤ set ∧ set ≤ 255) (h : post (some (vi_ (ch_ v set (v 0 0).toNat))) σ) : V_ l D mX1_chancesOf (CM_ D mX1_chancesOf post) 0 [some (vr_ 19), some (vi_ set), none, none, none] [] σ := by
  refine V_iconst (pc := 0) dX1_chancesOf_0 ?_
  refine V_istore_n (pc := 1) dX1_chancesOf_1 rfl (by decide) rfl ?_
  show V_ _ _ _ _ _ [_, _, _, _, _] _ _
  refine V_iconst (pc := 2) dX1_chancesOf_2 ?_
  refine V_istore_n (pc := 3) dX1_chancesOf_3 rfl (by decide) rfl ?_
  show V_ _ _ _ _ _ [_, _, _, _, _] _ _
  exact V_cg (lp_X1_chancesOf hW hC hs h 0 (Nat.zero_le _)) (by simp [ch_]) rfl rfl
end
