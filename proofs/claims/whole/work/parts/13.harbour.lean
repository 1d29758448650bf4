/-! ## class Harbour: reads -/
def HC_ (v σ : Mm_) : Prop := σ 19 0 = v 0 0 ∧ σ 19 3 = v 3 0 ∧ σ 19 7 = v 7 0 ∧ (∀ k : Nat, (k : Int) < v 0 0 → σ 20 k = v 1 k ∧ σ 21 k = v 2 k) ∧
  (∀ k : Nat, (k : Int) < v 3 0 → σ 22 k = v 4 k ∧ σ 23 k = v 5 k ∧ bt_ (σ 19 6) k = decide (v 6 k = 1)) ∧ (∀ k : Nat, (k : Int) < v 7 0 → σ 24 k = v 8 k ∧ σ 25 k = v 9 k ∧ σ 26 k = v 10 k) ∧ (0 ≤ σ 19 6 ∧ σ 19 6 < 256)
theorem HC_.si {v σ : Mm_} (h : HC_ v σ) {k : Nat} (hk : (k : Int) < v 0 0) : σ 20 k = v 1 k ∧ σ 21 k = v 2 k := h.2.2.2.1 k hk
theorem HC_.ni {v σ : Mm_} (h : HC_ v σ) {k : Nat} (hk : (k : Int) < v 3 0) : σ 22 k = v 4 k ∧ σ 23 k = v 5 k ∧ bt_ (σ 19 6) k = decide (v 6 k = 1) := h.2.2.2.2.1 k hk
theorem HC_.li {v σ : Mm_} (h : HC_ v σ) {k : Nat} (hk : (k : Int) < v 7 0) : σ 24 k = v 8 k ∧ σ 25 k = v 9 k ∧ σ 26 k = v 10 k := h.2.2.2.2.2.1 k hk
def bb_ (v : Mm_) (k : Int) : Int := be_ v (v 3 0).toNat k
def pp_ (v : Mm_) (i : Nat) : Int := if sd_ v i then bb_ v (v 9 i) else -1
def HD_ (v σ : Mm_) : Prop := (∀ k : Nat, (k : Int) < v 3 0 → σ 27 k = bb_ v k) ∧ (∀ i : Nat, (i : Int) < v 7 0 → σ 28 i = du_ v i) ∧ (∀ i : Nat, (i : Int) < v 7 0 → σ 10 i = pp_ v i)
theorem HC_.cg {v σ σ' : Mm_} (h : HC_ v σ) (e : ∀ a b, 19 ≤ a → a ≤ 26 → σ' a b = σ a b) : HC_ v σ' := by
  obtain ⟨h1, h2, h3, h4, h5, h6, h7⟩ := h
  refine ⟨by rw [e _ _ (by decide) (by decide)]; exact h1, by rw [e _ _ (by decide) (by decide)]; exact h2, by rw [e _ _ (by decide) (by decide)]; exact h3, fun k hk => ?_, fun k hk => ?_, fun k hk => ?_, ?_⟩
  · rw [e _ _ (by decide) (by decide), e _ _ (by decide) (by decide)]; exact h4 k hk
  · rw [e _ _ (by decide) (by decide), e _ _ (by decide) (by decide), e _ _ (by decide) (by decide)]; exact h5 k hk
  · rw [e _ _ (by decide) (by decide), e _ _ (by decide) (by decide), e _ _ (by decide) (by decide)]; exact h6 k hk
  · rw [e _ _ (by decide) (by decide)]; exact h7
theorem HD_.cg {v σ σ' : Mm_} (h : HD_ v σ) (e : ∀ a b, 10 ≤ a → (a = 10 ∨ (27 ≤ a ∧ a ≤ 28)) → σ' a b = σ a b) : HD_ v σ' :=
  ⟨fun k hk => by rw [e _ _ (by decide) (by decide)]; exact h.1 k hk, fun k hk => by rw [e _ _ (by decide) (by decide)]; exact h.2.1 k hk, fun k hk => by rw [e _ _ (by decide) (by decide)]; exact h.2.2 k hk⟩
section
variable {l : Launch} {D : Dt_} {v σ : Mm_} {post : Option Av_ → Mm_ → Prop}
theorem ct_X1_hasShip {x n : Int} (hx : Rg_ x) (hs : σ 19 0 = n) (h : post (some (vi_ (b2_ (0 ≤ x ∧ x < n)))) σ) : V_ l D mX1_hasShip (CM_ D mX1_hasShip post) 0 [some (vr_ 19), some (vi_ x)] [] σ := by
  refine V_iload_n (pc := 0) dX1_hasShip_0 rfl rfl ?_
  refine V_if_lt (tgt := 16) (pc := 1) dX1_hasShip_1 (by decide) (by first | assumption | decide | omega | exact ba_rg hR | exact b2_rg) (fun h1 => ?_) (fun h1 => ?_)
  · skip
    refine V_iconst (pc := 16) dX1_hasShip_16 ?_
    refine V_ireturn (pc := 17) dX1_hasShip_17 rfl rfl (fun hR => ?_)
    first | (rw [b2_t (by omega)] at h; exact h) | (rw [b2_f (by omega)] at h; exact h)
  · skip
    refine V_iload_n (pc := 4) dX1_hasShip_4 rfl rfl ?_
    refine V_aload_n (pc := 5) dX1_hasShip_5 rfl rfl ?_
    refine V_geti (pc := 6) dX1_hasShip_6 fX1_42 rfl gg_19 rfl (fun r6 => ?_)
    refine V_icmp_ge (tgt := 16) (pc := 9) dX1_hasShip_9 (by decide) (by first | assumption | decide | omega | exact ba_rg hR | exact b2_rg) (by first | assumption | decide | omega | exact ba_rg hR | exact b2_rg) (fun h9 => ?_) (fun h9 => ?_)
    · skip
      refine V_iconst (pc := 16) dX1_hasShip_16 ?_
      refine V_ireturn (pc := 17) dX1_hasShip_17 rfl rfl (fun hR => ?_)
      first | (rw [b2_t (by omega)] at h; exact h) | (rw [b2_f (by omega)] at h; exact h)
    · skip
      refine V_iconst (pc := 12) dX1_hasShip_12 ?_
      refine V_goto (tgt := 17) (pc := 13) dX1_hasShip_13 (by decide) ?_
      refine V_ireturn (pc := 17) dX1_hasShip_17 rfl rfl (fun hR => ?_)
      first | (rw [b2_t (by omega)] at h; exact h) | (rw [b2_f (by omega)] at h; exact h)
theorem ct_X1_hasName {x n : Int} (hx : Rg_ x) (hs : σ 19 3 = n) (h : post (some (vi_ (b2_ (0 ≤ x ∧ x < n)))) σ) : V_ l D mX1_hasName (CM_ D mX1_hasName post) 0 [some (vr_ 19), some (vi_ x)] [] σ := by
  refine V_iload_n (pc := 0) dX1_hasName_0 rfl rfl ?_
  refine V_if_lt (tgt := 16) (pc := 1) dX1_hasName_1 (by decide) (by first | assumption | decide | omega | exact ba_rg hR | exact b2_rg) (fun h1 => ?_) (fun h1 => ?_)
  · skip
    refine V_iconst (pc := 16) dX1_hasName_16 ?_
    refine V_ireturn (pc := 17) dX1_hasName_17 rfl rfl (fun hR => ?_)
    first | (rw [b2_t (by omega)] at h; exact h) | (rw [b2_f (by omega)] at h; exact h)
  · skip
    refine V_iload_n (pc := 4) dX1_hasName_4 rfl rfl ?_
    refine V_aload_n (pc := 5) dX1_hasName_5 rfl rfl ?_
    refine V_geti (pc := 6) dX1_hasName_6 fX1_46 rfl gg_19 rfl (fun r6 => ?_)
    refine V_icmp_ge (tgt := 16) (pc := 9) dX1_hasName_9 (by decide) (by first | assumption | decide | omega | exact ba_rg hR | exact b2_rg) (by first | assumption | decide | omega | exact ba_rg hR | exact b2_rg) (fun h9 => ?_) (fun h9 => ?_)
    · skip
      refine V_iconst (pc := 16) dX1_hasName_16 ?_
      refine V_ireturn (pc := 17) dX1_hasName_17 rfl rfl (fun hR => ?_)
      first | (rw [b2_t (by omega)] at h; exact h) | (rw [b2_f (by omega)] at h; exact h)
    · skip
      refine V_iconst (pc := 12) dX1_hasName_12 ?_
      refine V_goto (tgt := 17) (pc := 13) dX1_hasName_13 (by decide) ?_
      refine V_ireturn (pc := 17) dX1_hasName_17 rfl rfl (fun hR => ?_)
      first | (rw [b2_t (by omega)] at h; exact h) | (rw [b2_f (by omega)] at h; exact h)
theorem ct_X1_hasLine {x n : Int} (hx : Rg_ x) (hs : σ 19 7 = n) (h : post (some (vi_ (b2_ (0 ≤ x ∧ x < n)))) σ) : V_ l D mX1_hasLine (CM_ D mX1_hasLine post) 0 [some (vr_ 19), some (vi_ x)] [] σ := by
  refine V_iload_n (pc := 0) dX1_hasLine_0 rfl rfl ?_
  refine V_if_lt (tgt := 16) (pc := 1) dX1_hasLine_1 (by decide) (by first | assumption | decide | omega | exact ba_rg hR | exact b2_rg) (fun h1 => ?_) (fun h1 => ?_)
  · skip
    refine V_iconst (pc := 16) dX1_hasLine_16 ?_
    refine V_ireturn (pc := 17) dX1_hasLine_17 rfl rfl (fun hR => ?_)
    first | (rw [b2_t (by omega)] at h; exact h) | (rw [b2_f (by omega)] at h; exact h)
  · skip
    refine V_iload_n (pc := 4) dX1_hasLine_4 rfl rfl ?_
    refine V_aload_n (pc := 5) dX1_hasLine_5 rfl rfl ?_
    refine V_geti (pc := 6) dX1_hasLine_6 fX1_49 rfl gg_19 rfl (fun r6 => ?_)
    refine V_icmp_ge (tgt := 16) (pc := 9) dX1_hasLine_9 (by decide) (by first | assumption | decide | omega | exact ba_rg hR | exact b2_rg) (by first | assumption | decide | omega | exact ba_rg hR | exact b2_rg) (fun h9 => ?_) (fun h9 => ?_)
    · skip
      refine V_iconst (pc := 16) dX1_hasLine_16 ?_
      refine V_ireturn (pc := 17) dX1_hasLine_17 rfl rfl (fun hR => ?_)
      first | (rw [b2_t (by omega)] at h; exact h) | (rw [b2_f (by omega)] at h; exact h)
    · skip
      refine V_iconst (pc := 12) dX1_hasLine_12 ?_
      refine V_goto (tgt := 17) (pc := 13) dX1_hasLine_13 (by decide) ?_
      refine V_ireturn (pc := 17) dX1_hasLine_17 rfl rfl (fun hR => ?_)
      first | (rw [b2_t (by omega)] at h; exact h) | (rw [b2_f (by omega)] at h; exact h)
theorem ct_X1_isDrowned {x : Int} (hx : 0 ≤ x ∧ x < 8) (hb : 0 ≤ σ 19 6 ∧ σ 19 6 < 256) (h : post (some (vi_ (b2_ (bt_ (σ 19 6) x = true)))) σ) : V_ l D mX1_isDrowned (CM_ D mX1_isDrowned post) 0 [some (vr_ 19), some (vi_ x)] [] σ := by
  refine V_aload_n (pc := 0) dX1_isDrowned_0 rfl rfl ?_
  refine V_geti (pc := 1) dX1_isDrowned_1 fX1_52 rfl gg_19 rfl (fun r1 => ?_)
  refine V_iload_n (pc := 4) dX1_isDrowned_4 rfl rfl ?_
  refine V_ishr (pc := 5) dX1_isDrowned_5 ?_
  refine V_iconst (pc := 6) dX1_isDrowned_6 ?_
  refine V_iand (pc := 7) dX1_isDrowned_7 ?_
  rw [bit_b2 (by omega) (by omega)]
  refine V_iconst (pc := 8) dX1_isDrowned_8 ?_
  refine V_icmp_ne (tgt := 16) (pc := 9) dX1_isDrowned_9 (by decide) (by first | assumption | decide | omega | exact ba_rg hR | exact b2_rg) (by first | assumption | decide | omega | exact ba_rg hR | exact b2_rg) (fun h9 => ?_) (fun h9 => ?_)
  · skip
    rw [b2_n1] at h9
    refine V_iconst (pc := 16) dX1_isDrowned_16 ?_
    refine V_ireturn (pc := 17) dX1_isDrowned_17 rfl rfl (fun hR => ?_)
    first | (rw [b2_t (by assumption)] at h; exact h) | (rw [b2_f (by assumption)] at h; exact h)
  · skip
    rw [b2_1] at h9
    refine V_iconst (pc := 12) dX1_isDrowned_12 ?_
    refine V_goto (tgt := 17) (pc := 13) dX1_isDrowned_13 (by decide) ?_
    refine V_ireturn (pc := 17) dX1_isDrowned_17 rfl rfl (fun hR => ?_)
    first | (rw [b2_t (by assumption)] at h; exact h) | (rw [b2_f (by assumption)] at h; exact h)
theorem ct_X1_isVoid {i : Nat} {x : Int} (hW : WF_ v) (hC : HC_ v σ) (hi : (i : Int) < v 7 0) (hx : x = v 11 0) (h : post (some (vi_ (b2_ (¬ sd_ v i)))) σ) : V_ l D mX1_isVoid (CM_ D mX1_isVoid post) 0 [some (vr_ 19), some (vi_ (i : Int)), some (vi_ x), none] [] σ := by
  have wi := hW.li hi
  have wl := hW.l
  have wk := hW.k
  have ws := hW.s
  have wn := hW.n
  refine V_aload_n (pc := 0) dX1_isVoid_0 rfl rfl ?_
  refine V_getr (pc := 1) dX1_isVoid_1 fX1_27 rfl gg_19 rfl ?_
  refine V_iload_n (pc := 4) dX1_isVoid_4 rfl rfl ?_
  refine V_ialdN (pc := 5) dX1_isVoid_5 gg_25 (by first | assumption | decide | omega) (by decide) (fun r5 => ?_)
  rw [(hC.li hi).2.1]
  refine V_istore_n (pc := 6) dX1_isVoid_6 rfl (by decide) rfl ?_
  show V_ _ _ _ _ _ [_, _, _, _] _ _
  refine V_aload_n (pc := 7) dX1_isVoid_7 rfl rfl ?_
  refine V_aload_n (pc := 8) dX1_isVoid_8 rfl rfl ?_
  refine V_getr (pc := 9) dX1_isVoid_9 fX1_24 rfl gg_19 rfl ?_
  refine V_iload_n (pc := 12) dX1_isVoid_12 rfl rfl ?_
  refine V_ialdN (pc := 13) dX1_isVoid_13 gg_24 (by first | assumption | decide | omega) (by decide) (fun r13 => ?_)
  rw [(hC.li hi).1]
  refine V_callV (pc := 14) (as := [_]) (rest := []) dX1_isVoid_14 ⟨kX1_94, iX1_hasShip, by decide, by decide⟩ rc_19 rfl rfl (Nat.le_of_ble_eq_true rfl) (Nat.le_of_ble_eq_true rfl) ?_
  refine ct_X1_hasShip (by first | assumption | decide | omega | exact ba_rg hR | exact b2_rg) hC.1 ?_
  show V_ _ _ _ _ _ _ [_] _
  refine V_if_eq (tgt := 37) (pc := 17) dX1_isVoid_17 (by decide) (by first | assumption | decide | omega | exact ba_rg hR | exact b2_rg) (fun h17 => ?_) (fun h17 => ?_)
  · skip
    rw [b2_0] at h17
    rw [b2_t (fun z => h17 z.1)] at h
    refine V_iconst (pc := 37) dX1_isVoid_37 ?_
    refine V_goto (tgt := 42) (pc := 38) dX1_isVoid_38 (by decide) ?_
    refine V_ireturn (pc := 42) dX1_isVoid_42 rfl rfl (fun hR => ?_)
    exact h
  · skip
    rw [b2_n0] at h17
    refine V_aload_n (pc := 20) dX1_isVoid_20 rfl rfl ?_
    refine V_iload_n (pc := 21) dX1_isVoid_21 rfl rfl ?_
    refine V_callV (pc := 22) (as := [_]) (rest := []) dX1_isVoid_22 ⟨kX1_90, iX1_hasName, by decide, by decide⟩ rc_19 rfl rfl (Nat.le_of_ble_eq_true rfl) (Nat.le_of_ble_eq_true rfl) ?_
    refine ct_X1_hasName (by first | assumption | decide | omega | exact ba_rg hR | exact b2_rg) hC.2.1 ?_
    show V_ _ _ _ _ _ _ [_] _
    refine V_if_eq (tgt := 37) (pc := 25) dX1_isVoid_25 (by decide) (by first | assumption | decide | omega | exact ba_rg hR | exact b2_rg) (fun h25 => ?_) (fun h25 => ?_)
    · skip
      rw [b2_0] at h25
      rw [b2_t (fun z => h25 z.2.1)] at h
      refine V_iconst (pc := 37) dX1_isVoid_37 ?_
      refine V_goto (tgt := 42) (pc := 38) dX1_isVoid_38 (by decide) ?_
      refine V_ireturn (pc := 42) dX1_isVoid_42 rfl rfl (fun hR => ?_)
      exact h
    · skip
      rw [b2_n0] at h25
      refine V_iload_n (pc := 28) dX1_isVoid_28 rfl rfl ?_
      refine V_iload_n (pc := 29) dX1_isVoid_29 rfl rfl ?_
      refine V_ishr (pc := 30) dX1_isVoid_30 ?_
      refine V_iconst (pc := 31) dX1_isVoid_31 ?_
      refine V_iand (pc := 32) dX1_isVoid_32 ?_
      rw [bit_b2 (by omega) (by omega)]
      refine V_iconst (pc := 33) dX1_isVoid_33 ?_
      refine V_icmp_ne (tgt := 41) (pc := 34) dX1_isVoid_34 (by decide) (by first | assumption | decide | omega | exact ba_rg hR | exact b2_rg) (by first | assumption | decide | omega | exact ba_rg hR | exact b2_rg) (fun h34 => ?_) (fun h34 => ?_)
      · skip
        rw [b2_n1] at h34
        rw [b2_f (fun z => z ⟨h17, h25, by rw [← hx]; simpa using h34⟩)] at h
        refine V_iconst (pc := 41) dX1_isVoid_41 ?_
        refine V_ireturn (pc := 42) dX1_isVoid_42 rfl rfl (fun hR => ?_)
        exact h
      · skip
        rw [b2_1] at h34
        rw [b2_t (fun z => by rw [hx, z.2.2] at h34; cases h34)] at h
        refine V_iconst (pc := 37) dX1_isVoid_37 ?_
        refine V_goto (tgt := 42) (pc := 38) dX1_isVoid_38 (by decide) ?_
        refine V_ireturn (pc := 42) dX1_isVoid_42 rfl rfl (fun hR => ?_)
        exact h
theorem lp_X1_bearerOf {x n0 : Int} (hW : WF_ v) (hC : HC_ v σ) (hx : x = v 11 0) {B : Int} (h : post (some (vi_ B)) σ) : ∀ i : Nat, i ≤ (v 3 0).toNat → ∀ a : Int, wN_ v a → be_ v ((v 3 0).toNat - i) a = B → V_ l D mX1_bearerOf (CM_ D mX1_bearerOf post) 5 [some (vr_ 19), some (vi_ n0), some (vi_ x), some (vi_ a), some (vi_ (i : Int)), none] [] σ := by
  have wk := hW.k
  have wn := hW.n
  refine up_ _ (fun i hi ih a ha hB => ?_)
  have hn : ((v 3 0).toNat : Int) = v 3 0 := Int.toNat_of_nonneg wn.1
  obtain ⟨k, rfl⟩ := i_nat ha.1
  refine V_iload (pc := 5) dX1_bearerOf_5 rfl ?_
  refine V_aload_n (pc := 7) dX1_bearerOf_7 rfl rfl ?_
  refine V_geti (pc := 8) dX1_bearerOf_8 fX1_46 rfl gg_19 rfl (fun r8 => ?_)
  rw [hC.2.1]
  refine V_icmp_ge (tgt := 58) (pc := 11) dX1_bearerOf_11 (by decide) (by first | assumption | decide | omega | exact ba_rg hR | exact b2_rg) (by first | assumption | decide | omega | exact ba_rg hR | exact b2_rg) (fun h11 => ?_) (fun h11 => ?_)
  · skip
    have e : (v 3 0).toNat - i = 0 := by omega
    rw [e] at hB
    unfold be_ at hB
    refine V_iconst (pc := 58) dX1_bearerOf_58 ?_
    refine V_ireturn (pc := 59) dX1_bearerOf_59 rfl rfl (fun hR => ?_)
    first | (rw [hB]; exact h) | (rw [← hB] at h; exact h)
  · skip
    obtain ⟨q, hq⟩ : ∃ q, (v 3 0).toNat - i = q + 1 := ⟨(v 3 0).toNat - i - 1, by omega⟩
    rw [hq] at hB
    unfold be_ at hB
    simp only [Int.toNat_natCast] at hB
    have wi := hW.ni (k := k) (by omega)
    refine V_aload_n (pc := 14) dX1_bearerOf_14 rfl rfl ?_
    refine V_getr (pc := 15) dX1_bearerOf_15 fX1_21 rfl gg_19 rfl ?_
    refine V_iload_n (pc := 18) dX1_bearerOf_18 rfl rfl ?_
    refine V_ialdN (pc := 19) dX1_bearerOf_19 gg_23 (by first | assumption | decide | omega) (by decide) (fun r19 => ?_)
    rw [(hC.ni (k := k) (by omega)).2.1]
    refine V_istore (pc := 20) dX1_bearerOf_20 (by decide) rfl ?_
    show V_ _ _ _ _ _ [_, _, _, _, _, _] _ _
    refine V_iload (pc := 22) dX1_bearerOf_22 rfl ?_
    refine V_iload_n (pc := 24) dX1_bearerOf_24 rfl rfl ?_
    refine V_icmp_eq (tgt := 47) (pc := 25) dX1_bearerOf_25 (by decide) (by first | assumption | decide | omega | exact ba_rg hR | exact b2_rg) (by first | assumption | decide | omega | exact ba_rg hR | exact b2_rg) (fun h25 => ?_) (fun h25 => ?_)
    · skip
      rw [if_pos (show eb_ v (k : Int) from Or.inl h25)] at hB
      refine V_iload_n (pc := 47) dX1_bearerOf_47 rfl rfl ?_
      refine V_ireturn (pc := 48) dX1_bearerOf_48 rfl rfl (fun hR => ?_)
      first | (rw [hB]; exact h) | (rw [← hB] at h; exact h)
    · skip
      refine V_aload_n (pc := 28) dX1_bearerOf_28 rfl rfl ?_
      refine V_iload (pc := 29) dX1_bearerOf_29 rfl ?_
      refine V_callV (pc := 31) (as := [_]) (rest := []) dX1_bearerOf_31 ⟨kX1_90, iX1_hasName, by decide, by decide⟩ rc_19 rfl rfl (Nat.le_of_ble_eq_true rfl) (Nat.le_of_ble_eq_true rfl) ?_
      refine ct_X1_hasName (by first | assumption | decide | omega | exact ba_rg hR | exact b2_rg) hC.2.1 ?_
      show V_ _ _ _ _ _ _ [_] _
      refine V_if_eq (tgt := 47) (pc := 34) dX1_bearerOf_34 (by decide) (by first | assumption | decide | omega | exact ba_rg hR | exact b2_rg) (fun h34 => ?_) (fun h34 => ?_)
      · skip
        rw [b2_0] at h34
        rw [if_pos (show eb_ v (k : Int) from Or.inr (Or.inl h34))] at hB
        refine V_iload_n (pc := 47) dX1_bearerOf_47 rfl rfl ?_
        refine V_ireturn (pc := 48) dX1_bearerOf_48 rfl rfl (fun hR => ?_)
        first | (rw [hB]; exact h) | (rw [← hB] at h; exact h)
      · skip
        rw [b2_n0] at h34
        refine V_iload_n (pc := 37) dX1_bearerOf_37 rfl rfl ?_
        refine V_iload (pc := 38) dX1_bearerOf_38 rfl ?_
        refine V_ishr (pc := 40) dX1_bearerOf_40 ?_
        refine V_iconst (pc := 41) dX1_bearerOf_41 ?_
        refine V_iand (pc := 42) dX1_bearerOf_42 ?_
        rw [bit_b2 (by omega) (by omega)]
        refine V_iconst (pc := 43) dX1_bearerOf_43 ?_
        refine V_icmp_ne (tgt := 49) (pc := 44) dX1_bearerOf_44 (by decide) (by first | assumption | decide | omega | exact ba_rg hR | exact b2_rg) (by first | assumption | decide | omega | exact ba_rg hR | exact b2_rg) (fun h44 => ?_) (fun h44 => ?_)
        · skip
          rw [b2_n1] at h44
          rw [if_neg (show ¬ eb_ v (k : Int) from fun z => z.elim h25 (fun z => z.elim (fun z => z h34) (fun z => h44 (by rw [hx]; exact z))))] at hB
          refine V_iload (pc := 49) dX1_bearerOf_49 rfl ?_
          refine V_istore_n (pc := 51) dX1_bearerOf_51 rfl (by decide) rfl ?_
          show V_ _ _ _ _ _ [_, _, _, _, _, _] _ _
          refine V_iinc (pc := 52) dX1_bearerOf_52 rfl (by decide) rfl ?_
          show V_ _ _ _ _ _ [_, _, _, _, _, _] _ _
          refine V_goto (tgt := 5) (pc := 55) dX1_bearerOf_55 (by decide) ?_
          refine V_none (k := 5) ?_
          show V_ _ _ _ _ _ [_, _, _, _, _, _] _ _
          exact V_cg (ih (by omega) (v 5 k) (by omega) (by rw [show (v 3 0).toNat - (i + 1) = q by omega]; exact hB)) (by simp) rfl rfl
        · skip
          rw [b2_1] at h44
          rw [if_pos (show eb_ v (k : Int) from Or.inr (Or.inr (by rw [← hx]; exact h44)))] at hB
          refine V_iload_n (pc := 47) dX1_bearerOf_47 rfl rfl ?_
          refine V_ireturn (pc := 48) dX1_bearerOf_48 rfl rfl (fun hR => ?_)
          first | (rw [hB]; exact h) | (rw [← hB] at h; exact h)
theorem ct_X1_bearerOf {x n0 : Int} (hW : WF_ v) (hC : HC_ v σ) (hx : x = v 11 0) (hn : wN_ v n0) (h : post (some (vi_ (bb_ v n0))) σ) : V_ l D mX1_bearerOf (CM_ D mX1_bearerOf post) 0 [some (vr_ 19), some (vi_ n0), some (vi_ x), none, none, none] [] σ := by
  refine V_iload_n (pc := 0) dX1_bearerOf_0 rfl rfl ?_
  refine V_istore_n (pc := 1) dX1_bearerOf_1 rfl (by decide) rfl ?_
  show V_ _ _ _ _ _ [_, _, _, _, _, _] _ _
  refine V_iconst (pc := 2) dX1_bearerOf_2 ?_
  refine V_istore (pc := 3) dX1_bearerOf_3 (by decide) rfl ?_
  show V_ _ _ _ _ _ [_, _, _, _, _, _] _ _
  exact lp_X1_bearerOf hW hC hx h 0 (Nat.zero_le _) n0 hn rfl
theorem lp_X1_dueOfLine {x : Int} {j : Nat} (hW : WF_ v) (hC : HC_ v σ) (hx : x = v 11 0) (hj : (j : Int) < v 7 0) (hs : wS_ v (v 8 j)) (h : post (some (vi_ (da_ v j))) σ) : ∀ i : Nat, i ≤ (v 7 0).toNat → V_ l D mX1_dueOfLine (CM_ D mX1_dueOfLine post) 13 [some (vr_ 19), some (vi_ (j : Int)), some (vi_ x), some (vi_ (v 8 j)), some (vi_ (al_ v (v 8 j) i)), some (vi_ (i : Int))] [] σ := by
  have wl := hW.l
  have wj := hW.li hj
  have ws := hW.s
  have wz := hW.si (k := (v 8 j).toNat) (by omega)
  refine up_ _ (fun i hi ih => ?_)
  have hn : ((v 7 0).toNat : Int) = v 7 0 := Int.toNat_of_nonneg wl.1
  have wa := al_rg hW (s := v 8 j) (n := i) (by omega)
  refine V_iload (pc := 13) dX1_dueOfLine_13 rfl ?_
  refine V_aload_n (pc := 15) dX1_dueOfLine_15 rfl rfl ?_
  refine V_geti (pc := 16) dX1_dueOfLine_16 fX1_49 rfl gg_19 rfl (fun r16 => ?_)
  rw [hC.2.2.1]
  refine V_icmp_ge (tgt := 65) (pc := 19) dX1_dueOfLine_19 (by decide) (by first | assumption | decide | omega | exact ba_rg hR | exact b2_rg) (by first | assumption | decide | omega | exact ba_rg hR | exact b2_rg) (fun h19 => ?_) (fun h19 => ?_)
  · skip
    have e : i = (v 7 0).toNat := by omega
    subst e
    refine V_aload_n (pc := 65) dX1_dueOfLine_65 rfl rfl ?_
    refine V_getr (pc := 66) dX1_dueOfLine_66 fX1_30 rfl gg_19 rfl ?_
    refine V_iload_n (pc := 69) dX1_dueOfLine_69 rfl rfl ?_
    refine V_ialdN (pc := 70) dX1_dueOfLine_70 gg_26 (by first | assumption | decide | omega) (by decide) (fun r70 => ?_)
    rw [(hC.li (k := j) (by omega)).2.2]
    refine V_istore (pc := 71) dX1_dueOfLine_71 (by decide) rfl ?_
    show V_ _ _ _ _ _ [_, _, _, _, _, _] _ _
    refine V_iload (pc := 73) dX1_dueOfLine_73 rfl ?_
    refine V_aload_n (pc := 75) dX1_dueOfLine_75 rfl rfl ?_
    refine V_getr (pc := 76) dX1_dueOfLine_76 fX1_9 rfl gg_19 rfl ?_
    refine V_iload_n (pc := 79) dX1_dueOfLine_79 rfl rfl ?_
    refine V_iald (pc := 80) dX1_dueOfLine_80 gg_20 (by first | assumption | decide | omega) (by decide) (fun r80 => ?_)
    rw [(hC.si (k := (v 8 j).toNat) (by omega)).1]
    refine V_icmp_le (tgt := 104) (pc := 81) dX1_dueOfLine_81 (by decide) (by first | assumption | decide | omega | exact ba_rg hR | exact b2_rg) (by first | assumption | decide | omega | exact ba_rg hR | exact b2_rg) (fun h81 => ?_) (fun h81 => ?_)
    · skip
      refine V_iload (pc := 104) dX1_dueOfLine_104 rfl ?_
      refine V_ireturn (pc := 106) dX1_dueOfLine_106 rfl rfl (fun hR => ?_)
      first | (unfold da_ at h; rw [if_pos (by omega)] at h; exact h) | (unfold da_ at h; rw [if_neg (by omega)] at h; exact h)
    · skip
      refine V_iload (pc := 84) dX1_dueOfLine_84 rfl ?_
      refine V_if_le (tgt := 104) (pc := 86) dX1_dueOfLine_86 (by decide) (by first | assumption | decide | omega | exact ba_rg hR | exact b2_rg) (fun h86 => by omega) (fun h86 => ?_)
      refine V_iload (pc := 89) dX1_dueOfLine_89 rfl ?_
      refine V_aload_n (pc := 91) dX1_dueOfLine_91 rfl rfl ?_
      refine V_getr (pc := 92) dX1_dueOfLine_92 fX1_9 rfl gg_19 rfl ?_
      refine V_iload_n (pc := 95) dX1_dueOfLine_95 rfl rfl ?_
      refine V_iald (pc := 96) dX1_dueOfLine_96 gg_20 (by first | assumption | decide | omega) (by decide) (fun r96 => ?_)
      rw [(hC.si (k := (v 8 j).toNat) (by omega)).1]
      refine V_imul (pc := 97) dX1_dueOfLine_97 ?_
      refine V_iload (pc := 98) dX1_dueOfLine_98 rfl ?_
      refine V_idiv (pc := 100) dX1_dueOfLine_100 (by constructor <;> omega) (by omega) ?_
      rw [idiv_p ⟨Int.mul_nonneg (by omega) (by omega), Int.le_trans (Int.mul_le_mul (show v 10 j ≤ 99 by omega) (show v 1 (v 8 j).toNat ≤ 99 by omega) (by omega) (by decide)) (by decide)⟩ (by omega)]
      refine V_goto (tgt := 106) (pc := 101) dX1_dueOfLine_101 (by decide) ?_
      refine V_ireturn (pc := 106) dX1_dueOfLine_106 rfl rfl (fun hR => ?_)
      first | (unfold da_ at h; rw [if_pos (by omega)] at h; exact h) | (unfold da_ at h; rw [if_neg (by omega)] at h; exact h)
  · skip
    have wi := hW.li (k := i) (by omega)
    refine V_iload (pc := 22) dX1_dueOfLine_22 rfl ?_
    refine V_aload_n (pc := 24) dX1_dueOfLine_24 rfl rfl ?_
    refine V_getr (pc := 25) dX1_dueOfLine_25 fX1_24 rfl gg_19 rfl ?_
    refine V_iload (pc := 28) dX1_dueOfLine_28 rfl ?_
    refine V_ialdN (pc := 30) dX1_dueOfLine_30 gg_24 (by first | assumption | decide | omega) (by decide) (fun r30 => ?_)
    rw [(hC.li (k := i) (by omega)).1]
    refine V_iload_n (pc := 31) dX1_dueOfLine_31 rfl rfl ?_
    refine V_icmp_ne (tgt := 55) (pc := 32) dX1_dueOfLine_32 (by decide) (by first | assumption | decide | omega | exact ba_rg hR | exact b2_rg) (by first | assumption | decide | omega | exact ba_rg hR | exact b2_rg) (fun h32 => ?_) (fun h32 => ?_)
    · skip
      have e0 : (if v 8 i = v 8 j ∧ sd_ v i then v 10 i else 0) = 0 := if_neg (fun z => h32 z.1)
      refine V_iconst (pc := 55) dX1_dueOfLine_55 ?_
      refine V_iadd (pc := 56) dX1_dueOfLine_56 ?_
      refine V_istore (pc := 57) dX1_dueOfLine_57 (by decide) rfl ?_
      show V_ _ _ _ _ _ [_, _, _, _, _, _] _ _
      refine V_iinc (pc := 59) dX1_dueOfLine_59 rfl (by decide) rfl ?_
      show V_ _ _ _ _ _ [_, _, _, _, _, _] _ _
      refine V_goto (tgt := 13) (pc := 62) dX1_dueOfLine_62 (by decide) ?_
      exact V_cg (ih (by omega)) (by simp only [al_, sm_]; rw [e0]; simp) rfl rfl
    · skip
      refine V_aload_n (pc := 35) dX1_dueOfLine_35 rfl rfl ?_
      refine V_iload (pc := 36) dX1_dueOfLine_36 rfl ?_
      refine V_iload_n (pc := 38) dX1_dueOfLine_38 rfl rfl ?_
      refine V_callV (pc := 39) (as := [_, _]) (rest := [_]) dX1_dueOfLine_39 ⟨kX1_83, iX1_isVoid, by decide, by decide⟩ rc_19 rfl rfl (Nat.le_of_ble_eq_true rfl) (Nat.le_of_ble_eq_true rfl) ?_
      refine ct_X1_isVoid hW hC (by omega) hx ?_
      show V_ _ _ _ _ _ _ [_, _] _
      refine V_if_ne (tgt := 55) (pc := 42) dX1_dueOfLine_42 (by decide) (by first | assumption | decide | omega | exact ba_rg hR | exact b2_rg) (fun h42 => ?_) (fun h42 => ?_)
      · skip
        rw [b2_n0] at h42
        have e0 : (if v 8 i = v 8 j ∧ sd_ v i then v 10 i else 0) = 0 := if_neg (fun z => h42 z.2)
        refine V_iconst (pc := 55) dX1_dueOfLine_55 ?_
        refine V_iadd (pc := 56) dX1_dueOfLine_56 ?_
        refine V_istore (pc := 57) dX1_dueOfLine_57 (by decide) rfl ?_
        show V_ _ _ _ _ _ [_, _, _, _, _, _] _ _
        refine V_iinc (pc := 59) dX1_dueOfLine_59 rfl (by decide) rfl ?_
        show V_ _ _ _ _ _ [_, _, _, _, _, _] _ _
        refine V_goto (tgt := 13) (pc := 62) dX1_dueOfLine_62 (by decide) ?_
        exact V_cg (ih (by omega)) (by simp only [al_, sm_]; rw [e0]; simp) rfl rfl
      · skip
        rw [b2_0] at h42
        have h42 := Decidable.not_not.mp h42
        have e0 : (if v 8 i = v 8 j ∧ sd_ v i then v 10 i else 0) = v 10 i := if_pos ⟨h32, h42⟩
        refine V_aload_n (pc := 45) dX1_dueOfLine_45 rfl rfl ?_
        refine V_getr (pc := 46) dX1_dueOfLine_46 fX1_30 rfl gg_19 rfl ?_
        refine V_iload (pc := 49) dX1_dueOfLine_49 rfl ?_
        refine V_ialdN (pc := 51) dX1_dueOfLine_51 gg_26 (by first | assumption | decide | omega) (by decide) (fun r51 => ?_)
        rw [(hC.li (k := i) (by omega)).2.2]
        refine V_goto (tgt := 56) (pc := 52) dX1_dueOfLine_52 (by decide) ?_
        refine V_iadd (pc := 56) dX1_dueOfLine_56 ?_
        refine V_istore (pc := 57) dX1_dueOfLine_57 (by decide) rfl ?_
        show V_ _ _ _ _ _ [_, _, _, _, _, _] _ _
        refine V_iinc (pc := 59) dX1_dueOfLine_59 rfl (by decide) rfl ?_
        show V_ _ _ _ _ _ [_, _, _, _, _, _] _ _
        refine V_goto (tgt := 13) (pc := 62) dX1_dueOfLine_62 (by decide) ?_
        exact V_cg (ih (by omega)) (by simp only [al_, sm_]; rw [e0]; simp) rfl rfl
theorem ct_X1_dueOfLine {x : Int} {j : Nat} (hW : WF_ v) (hC : HC_ v σ) (hx : x = v 11 0) (hj : (j : Int) < v 7 0) (hs : wS_ v (v 8 j)) (h : post (some (vi_ (da_ v j))) σ) : V_ l D mX1_dueOfLine (CM_ D mX1_dueOfLine post) 0 [some (vr_ 19), some (vi_ (j : Int)), some (vi_ x), none, none, none] [] σ := by
  have wl := hW.l
  refine V_aload_n (pc := 0) dX1_dueOfLine_0 rfl rfl ?_
  refine V_getr (pc := 1) dX1_dueOfLine_1 fX1_24 rfl gg_19 rfl ?_
  refine V_iload_n (pc := 4) dX1_dueOfLine_4 rfl rfl ?_
  refine V_ialdN (pc := 5) dX1_dueOfLine_5 gg_24 (by first | assumption | decide | omega) (by decide) (fun r5 => ?_)
  rw [(hC.li hj).1]
  refine V_istore_n (pc := 6) dX1_dueOfLine_6 rfl (by decide) rfl ?_
  show V_ _ _ _ _ _ [_, _, _, _, _, _] _ _
  refine V_iconst (pc := 7) dX1_dueOfLine_7 ?_
  refine V_istore (pc := 8) dX1_dueOfLine_8 (by decide) rfl ?_
  show V_ _ _ _ _ _ [_, _, _, _, _, _] _ _
  refine V_iconst (pc := 10) dX1_dueOfLine_10 ?_
  refine V_istore (pc := 11) dX1_dueOfLine_11 (by decide) rfl ?_
  show V_ _ _ _ _ _ [_, _, _, _, _, _] _ _
  exact lp_X1_dueOfLine hW hC hx hj hs h 0 (Nat.zero_le _)
end
