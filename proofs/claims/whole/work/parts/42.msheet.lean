/-! ## class DrownedNamesModel: sheets -/
/-- row c holds f 0 .. f (n - 1) from o on -/
def wo_ (σ : Mm_) (c o : Nat) (f : Nat → Int) (n : Nat) : Mm_ := fun a b => if a = c ∧ o ≤ b ∧ b < o + n then f (b - o) else σ a b
theorem wo_0 {σ : Mm_} {c o : Nat} {f : Nat → Int} : wo_ σ c o f 0 = σ := by
  funext a b
  unfold wo_
  rw [if_neg (by omega)]
theorem wo_s {σ : Mm_} {c o i : Nat} {f : Nat → Int} {x : Int} (hx : x = f i) : ms_ (wo_ σ c o f i) c (o + i) x = wo_ σ c o f (i + 1) := by
  subst hx
  funext a b
  unfold ms_ wo_
  by_cases h1 : a = c ∧ b = o + i
  · rw [if_pos h1, if_pos (by omega), h1.2, show o + i - o = i by omega]
  · rw [if_neg h1]
    by_cases h2 : a = c ∧ o ≤ b ∧ b < o + i
    · rw [if_pos h2, if_pos (by omega)]
    · rw [if_neg h2, if_neg (by omega)]
theorem wo_rw {σ : Mm_} {c o n q : Nat} {f : Nat → Int} (h : q ≠ c) : wo_ σ c o f n q = σ q := by
  funext b
  unfold wo_
  rw [if_neg (fun z => h z.1)]
theorem wo_in {σ : Mm_} {c o n i : Nat} {f : Nat → Int} (h : i < n) : wo_ σ c o f n c (o + i) = f i := by
  unfold wo_
  rw [if_pos (by omega), show o + i - o = i by omega]
theorem wo_out {σ : Mm_} {c o n b : Nat} {f : Nat → Int} (h : b < o ∨ o + n ≤ b) : wo_ σ c o f n c b = σ c b := by
  unfold wo_
  rw [if_neg (by omega)]
theorem MR_.sht {a a' σ σ' : Mm_} (h : MR_ a σ) (hA : AW_ a') (e : ∀ q, q ≠ 39 → q ≠ 40 → q ≠ 41 → q ≠ 42 → σ' q = σ q) (ea : ∀ k, (k ≤ 10 ∨ k = 17) → a' k = a k) (h6 : MS_ a' σ') : MR_ a' σ' := by
  obtain ⟨_, ⟨t0, t1, t2⟩, h3, h4, h5, _⟩ := h
  have e3 := e 43 (by decide) (by decide) (by decide) (by decide)
  have e4 := e 44 (by decide) (by decide) (by decide) (by decide)
  have e38 := e 38 (by decide) (by decide) (by decide) (by decide)
  refine ⟨hA, ⟨?_, ?_, ?_⟩, ?_, ?_, ?_, h6⟩
  · rw [ea 0 (by decide), ea 1 (by decide)]; exact t0.cg e4 e3
  · rw [ea 0 (by decide), ea 2 (by decide)]; exact t1.cg e4 e3
  · rw [ea 0 (by decide), ea 3 (by decide)]; exact t2.cg e4 e3
  · rw [e38, ea 4 (by decide), ea 17 (by decide)]; exact h3
  · unfold ML_ at h4 ⊢; rw [e38, e 49 (by decide) (by decide) (by decide) (by decide), ea 5 (by decide), ea 6 (by decide), ea 7 (by decide)]; exact h4
  · unfold MG_ at h5 ⊢; rw [e38, e 52 (by decide) (by decide) (by decide) (by decide), ea 8 (by decide), ea 9 (by decide), ea 10 (by decide)]; exact h5
theorem MR_.found {a σ : Mm_} {f : Int} (h : MR_ a σ) (hA : AW_ (ms_ a 17 0 f)) : MR_ (ms_ a 17 0 f) (ms_ σ 38 4 f) := by
  refine h.oth hA (fun q h1 h2 h3 => ms_rw h1) (fun k hk => ms_rw (by omega)) ⟨?_, by rw [ms_eq, ms_eq], ?_⟩ ?_ ?_
  · rw [ms_ne (by decide), ms_nk (by decide)]; exact h.2.2.1.1
  · rw [ms_ne (by decide)]; exact h.2.2.1.2.2
  · have h4 := h.2.2.2.1
    unfold ML_ at h4 ⊢
    rw [ms_ne (by decide), ms_rw (by decide), ms_rw (by decide), ms_rw (by decide), ms_rw (by decide)]; exact h4
  · have h5 := h.2.2.2.2.1
    unfold MG_ at h5 ⊢
    rw [ms_ne (by decide), ms_rw (by decide), ms_rw (by decide), ms_rw (by decide), ms_rw (by decide)]; exact h5
section
variable {l : Launch} {D : Dt_} {a σ : Mm_} {post : Option Av_ → Mm_ → Prop}
theorem lp_X7_sheet {k N : Nat} {f : Int} {ρ : Mm_} (hk : k < 4) (hN : N ≤ 60) (h : post (some (vi_ (N : Int))) (wo_ ρ 41 (60 * k) (fun _ => 0) N)) : ∀ i : Nat, i ≤ N → V_ l D mX7_sheet (CM_ D mX7_sheet post) 55 [some (vr_ 38), some (vi_ (k : Int)), some (vi_ f), some (vi_ (N : Int)), some (vi_ (i : Int))] [] (wo_ ρ 41 (60 * k) (fun _ => 0) i) := by
  refine up_ _ (fun i hi ih => ?_)
  refine V_iload (pc := 55) dX7_sheet_55 rfl ?_
  refine V_iload_n (pc := 57) dX7_sheet_57 rfl rfl ?_
  refine V_icmp_ge (tgt := 80) (pc := 58) dX7_sheet_58 (by decide) (by first | assumption | exact b2_rg | decide | (constructor <;> omega)) (by first | assumption | exact b2_rg | decide | (constructor <;> omega)) (fun h58 => ?_) (fun h58 => ?_)
  · skip
    refine V_iload_n (pc := 80) dX7_sheet_80 rfl rfl ?_
    refine V_ireturn (pc := 81) dX7_sheet_81 rfl rfl (fun hR => ?_)
    rw [show i = N by omega]; exact h
  · skip
    refine V_aload_n (pc := 61) dX7_sheet_61 rfl rfl ?_
    refine V_getr (pc := 62) dX7_sheet_62 fX7_16 rfl gg_38 rfl ?_
    refine V_bipush (pc := 65) dX7_sheet_65 (by decide) ?_
    refine V_iload_n (pc := 67) dX7_sheet_67 rfl rfl ?_
    refine V_imul (pc := 68) dX7_sheet_68 ?_
    refine V_iload (pc := 69) dX7_sheet_69 rfl ?_
    refine V_iadd (pc := 71) dX7_sheet_71 ?_
    refine V_iconst (pc := 72) dX7_sheet_72 ?_
    refine V_iast (pc := 73) dX7_sheet_73 gg_41 (by have : ((240 : Nat) : Int) = 240 := rfl; omega) (by decide) (by first | assumption | exact b2_rg | decide | (constructor <;> omega)) ?_
    rw [show (60 * (k : Int) + (i : Int)).toNat = 60 * k + i by omega, wo_s rfl]
    refine V_iinc (pc := 74) dX7_sheet_74 rfl (by decide) rfl ?_
    show V_ _ _ _ _ _ [_, _, _, _, _] _ _
    refine V_goto (tgt := 55) (pc := 77) dX7_sheet_77 (by decide) ?_
    exact V_cg (ih (by omega)) (by simp) rfl rfl
theorem ct_X7_sheet {s f n : Int} (hs : Rg_ s) (hf : Rg_ f) (hn : Rg_ n) (h : MR_ a σ) (hA2 : AW_ (nx_sheet a s f n).2) (hK : ∀ τ, MR_ (nx_sheet a s f n).2 τ → Gm_ σ τ → post (some (vi_ (nx_sheet a s f n).1)) τ) : V_ l D mX7_sheet (CM_ D mX7_sheet post) 0 [some (vr_ 38), some (vi_ s), some (vi_ f), some (vi_ n), none] [] σ := by
  refine V_iload_n (pc := 0) dX7_sheet_0 rfl rfl ?_
  refine V_callS (pc := 1) (as := [_]) (rest := []) dX7_sheet_1 ⟨kX7_70, sX7_isSheet, by decide, by decide⟩ rfl rfl (Nat.le_of_ble_eq_true rfl) (Nat.le_of_ble_eq_true rfl) ?_
  refine ct_X7_isSheet hs ?_
  show V_ _ _ _ _ _ _ [_] _
  refine V_if_eq (tgt := 25) (pc := 4) dX7_sheet_4 (by decide) b2_rg (fun h4 => ?_) (fun h4 => ?_)
  · skip
    rw [b2_0] at h4
    have e : nx_sheet a s f n = (-2, a) := if_pos (Or.inl h4)
    refine V_bipush (pc := 25) dX7_sheet_25 (by decide) ?_
    refine V_ireturn (pc := 27) dX7_sheet_27 rfl rfl (fun hR => ?_)
    have h2 := hK σ (by rw [e]; exact h) Gm_.rf
    rw [e] at h2
    exact h2
  · skip
    rw [b2_n0] at h4
    refine V_iload_n (pc := 7) dX7_sheet_7 rfl rfl ?_
    refine V_i2l (pc := 8) dX7_sheet_8 (by first | assumption | exact b2_rg | decide | (constructor <;> omega)) ?_
    refine V_lconst (z := 0) (pc := 9) dX7_sheet_9 rfl ?_
    refine V_ldc2 (v := (2)) (z := 2) (pc := 10) dX7_sheet_10 (tb_in 833 (by decide +kernel) rfl) (by decide +kernel) ?_
    refine V_callS (pc := 13) (as := [_, _, _]) (rest := []) dX7_sheet_13 ⟨kX7_61, sX7_in, by decide, by decide⟩ rfl rfl (Nat.le_of_ble_eq_true rfl) (Nat.le_of_ble_eq_true rfl) ?_
    refine ct_X7_in (by constructor <;> omega) (by decide) (by decide) ?_
    show V_ _ _ _ _ _ _ [_] _
    refine V_if_eq (tgt := 25) (pc := 16) dX7_sheet_16 (by decide) b2_rg (fun h16 => ?_) (fun h16 => ?_)
    · skip
      rw [b2_0] at h16
      have e : nx_sheet a s f n = (-2, a) := if_pos (Or.inr (Or.inl h16))
      refine V_bipush (pc := 25) dX7_sheet_25 (by decide) ?_
      refine V_ireturn (pc := 27) dX7_sheet_27 rfl rfl (fun hR => ?_)
      have h2 := hK σ (by rw [e]; exact h) Gm_.rf
      rw [e] at h2
      exact h2
    · skip
      rw [b2_n0] at h16
      refine V_iload_n (pc := 19) dX7_sheet_19 rfl rfl ?_
      refine V_bipush (pc := 20) dX7_sheet_20 (by decide) ?_
      refine V_icmp_le (tgt := 28) (pc := 22) dX7_sheet_22 (by decide) (by first | assumption | exact b2_rg | decide | (constructor <;> omega)) (by first | assumption | exact b2_rg | decide | (constructor <;> omega)) (fun h22 => ?_) (fun h22 => ?_)
      · skip
        refine V_iload_n (pc := 28) dX7_sheet_28 rfl rfl ?_
        refine V_if_ge (tgt := 38) (pc := 29) dX7_sheet_29 (by decide) (by first | assumption | exact b2_rg | decide | (constructor <;> omega)) (fun h29 => ?_) (fun h29 => ?_)
        · skip
          obtain ⟨k, rfl⟩ := i_nat h4.1
          have hk : k < 4 := by omega
          have hS := h.2.2.2.2.2 k hk
          obtain ⟨w1, w2⟩ := h.1.2.2.2.2.2.1 k hk
          obtain ⟨N, rfl⟩ := i_nat h29
          have e : nx_sheet a (k : Int) f (N : Int) = ((N : Int), sh_ a k f (N : Int)) := by unfold nx_sheet; rw [if_neg (by omega), if_neg (by omega)]; rfl
          rw [e] at hA2
          refine V_aload_n (pc := 38) dX7_sheet_38 rfl rfl ?_
          refine V_getr (pc := 39) dX7_sheet_39 fX7_7 rfl gg_38 rfl ?_
          refine V_iload_n (pc := 42) dX7_sheet_42 rfl rfl ?_
          refine V_iload_n (pc := 43) dX7_sheet_43 rfl rfl ?_
          refine V_iastN (pc := 44) dX7_sheet_44 gg_39 (by omega) (by decide) (by first | assumption | exact b2_rg | decide | (constructor <;> omega)) ?_
          refine V_aload_n (pc := 45) dX7_sheet_45 rfl rfl ?_
          refine V_getr (pc := 46) dX7_sheet_46 fX7_13 rfl gg_38 rfl ?_
          refine V_iload_n (pc := 49) dX7_sheet_49 rfl rfl ?_
          refine V_iload_n (pc := 50) dX7_sheet_50 rfl rfl ?_
          refine V_iastN (pc := 51) dX7_sheet_51 gg_40 (by omega) (by decide) (by first | assumption | exact b2_rg | decide | (constructor <;> omega)) ?_
          refine V_iconst (pc := 52) dX7_sheet_52 ?_
          refine V_istore (pc := 53) dX7_sheet_53 (by decide) rfl ?_
          show V_ _ _ _ _ _ [_, _, _, _, _] _ _
          have hM2 : MR_ (sh_ a k f (N : Int)) (wo_ (ms_ (ms_ σ 39 k f) 40 k (N : Int)) 41 (60 * k) (fun _ => 0) N) := by
            refine h.sht hA2 (fun q q1 q2 q3 q4 => by rw [wo_rw q3, ms_rw q2, ms_rw q1]) (fun q hq => by unfold sh_; rw [wr_rw (by omega), ms_rw (by omega), ms_rw (by omega)]) (fun u hu => ?_)
            obtain ⟨z1, z2⟩ := h.2.2.2.2.2 u hu
            obtain ⟨y1, y2⟩ := h.1.2.2.2.2.2.1 u hu
            have e11 : sh_ a k f (N : Int) 11 u = if u = k then f else a 11 u := by unfold sh_; rw [wr_nk (by omega), ms_nk (by decide)]; by_cases c : u = k <;> simp [ms_, c]
            have e12 : sh_ a k f (N : Int) 12 u = if u = k then (N : Int) else a 12 u := by unfold sh_; rw [wr_nk (by omega)]; by_cases c : u = k <;> simp [ms_, c]
            rw [e11, e12, wo_rw (by decide), wo_rw (by decide), ms_rw (by decide)]
            by_cases c : u = k
            · subst c
              rw [if_pos rfl, if_pos rfl, ms_eq, ms_eq]
              refine ⟨rfl, fun _ => ⟨rfl, fun i hi => ?_⟩⟩
              rw [wo_in (by omega)]
              unfold sh_
              rw [wr_in (by omega)]
            · rw [if_neg c, if_neg c, ms_ne (by omega), ms_ne (by omega), ms_rw (by decide)]
              refine ⟨z1, fun z => ⟨(z2 z).1, fun i hi => ?_⟩⟩
              rw [wo_out (by omega), ms_rw (by decide), ms_rw (by decide)]
              unfold sh_
              rw [wr_nk (by omega), ms_nk (by omega), ms_nk (by omega)]
              exact (z2 z).2 i hi
          have h2 := hK _ (by rw [e]; exact hM2) (fun q hq => by rw [wo_rw (by omega), ms_rw (by omega), ms_rw (by omega)])
          rw [e] at h2
          exact V_cg (lp_X7_sheet (f := f) hk (by omega) h2 0 (Nat.zero_le _)) (by simp) rfl wo_0.symm
        · skip
          have e : nx_sheet a s f n = fd2_ a 5 := by unfold nx_sheet; rw [if_neg (by omega), if_pos (by omega)]
          refine V_aload_n (pc := 32) dX7_sheet_32 rfl rfl ?_
          refine V_iconst (pc := 33) dX7_sheet_33 ?_
          refine V_callV (pc := 34) (as := [_]) (rest := []) dX7_sheet_34 ⟨kX7_76, iX7_finds, by decide, by decide⟩ rc_38 rfl rfl (Nat.le_of_ble_eq_true rfl) (Nat.le_of_ble_eq_true rfl) ?_
          refine ct_X7_finds (by decide) ?_
          show V_ _ _ _ _ _ _ [_] _
          refine V_ireturn (pc := 37) dX7_sheet_37 rfl rfl (fun hR => ?_)
          rw [e] at hA2
          have h2 := hK _ (by rw [e]; exact h.found hA2) (Gm_.rf.ms (by decide))
          rw [e] at h2
          exact h2
      · skip
        have e : nx_sheet a s f n = (-2, a) := if_pos (Or.inr (Or.inr (by omega)))
        refine V_bipush (pc := 25) dX7_sheet_25 (by decide) ?_
        refine V_ireturn (pc := 27) dX7_sheet_27 rfl rfl (fun hR => ?_)
        have h2 := hK σ (by rw [e]; exact h) Gm_.rf
        rw [e] at h2
        exact h2
theorem ct_X7_lose {s : Int} (hs : Rg_ s) (h : MR_ a σ) (hA2 : AW_ (nx_lose a s).2) (hK : ∀ τ, MR_ (nx_lose a s).2 τ → Gm_ σ τ → post (some (vi_ (nx_lose a s).1)) τ) : V_ l D mX7_lose (CM_ D mX7_lose post) 0 [some (vr_ 38), some (vi_ s)] [] σ := by
  refine V_iload_n (pc := 0) dX7_lose_0 rfl rfl ?_
  refine V_callS (pc := 1) (as := [_]) (rest := []) dX7_lose_1 ⟨kX7_70, sX7_isSheet, by decide, by decide⟩ rfl rfl (Nat.le_of_ble_eq_true rfl) (Nat.le_of_ble_eq_true rfl) ?_
  refine ct_X7_isSheet hs ?_
  show V_ _ _ _ _ _ _ [_] _
  refine V_if_ne (tgt := 10) (pc := 4) dX7_lose_4 (by decide) b2_rg (fun h4 => ?_) (fun h4 => ?_)
  · skip
    rw [b2_n0] at h4
    obtain ⟨k, rfl⟩ := i_nat h4.1
    have hk : k < 4 := by omega
    have hS := h.2.2.2.2.2 k hk
    obtain ⟨w1, w2⟩ := h.1.2.2.2.2.2.1 k hk
    refine V_aload_n (pc := 10) dX7_lose_10 rfl rfl ?_
    refine V_getr (pc := 11) dX7_lose_11 fX7_7 rfl gg_38 rfl ?_
    refine V_iload_n (pc := 14) dX7_lose_14 rfl rfl ?_
    refine V_ialdN (pc := 15) dX7_lose_15 gg_39 (by omega) (by decide) (fun r15 => ?_)
    rw [hS.1] at r15 ⊢
    refine V_if_ge (tgt := 25) (pc := 16) dX7_lose_16 (by decide) (by first | assumption | exact b2_rg | decide | (constructor <;> omega)) (fun h16 => ?_) (fun h16 => ?_)
    · skip
      have e : nx_lose a (k : Int) = (a 12 k, ms_ a 11 k (-1)) := by unfold nx_lose; rw [if_neg (by omega), show ((k : Int)).toNat = k from rfl, if_neg (by omega)]
      rw [e] at hA2
      refine V_aload_n (pc := 25) dX7_lose_25 rfl rfl ?_
      refine V_getr (pc := 26) dX7_lose_26 fX7_7 rfl gg_38 rfl ?_
      refine V_iload_n (pc := 29) dX7_lose_29 rfl rfl ?_
      refine V_iconst (pc := 30) dX7_lose_30 ?_
      refine V_iastN (pc := 31) dX7_lose_31 gg_39 (by omega) (by decide) (by first | assumption | exact b2_rg | decide | (constructor <;> omega)) ?_
      refine V_aload_n (pc := 32) dX7_lose_32 rfl rfl ?_
      refine V_getr (pc := 33) dX7_lose_33 fX7_13 rfl gg_38 rfl ?_
      refine V_iload_n (pc := 36) dX7_lose_36 rfl rfl ?_
      refine V_ialdN (pc := 37) dX7_lose_37 gg_40 (by omega) (by decide) (fun r37 => ?_)
      rw [show ms_ σ 39 k (-1) 40 k = a 12 k from by rw [ms_nk (by decide)]; exact (hS.2 (by omega)).1] at r37 ⊢
      refine V_ireturn (pc := 38) dX7_lose_38 rfl rfl (fun hR => ?_)
      have hM2 : MR_ (ms_ a 11 k (-1)) (ms_ σ 39 k (-1)) := by
        refine h.sht hA2 (fun q q1 q2 q3 q4 => ms_rw q1) (fun q hq => ms_rw (by omega)) (fun u hu => ?_)
        obtain ⟨z1, z2⟩ := h.2.2.2.2.2 u hu
        rw [ms_rw (by decide : (40 : Nat) ≠ 39), ms_rw (by decide : (41 : Nat) ≠ 39), ms_rw (by decide : (12 : Nat) ≠ 11), ms_rw (show 13 + u ≠ 11 by omega)]
        by_cases c : u = k
        · subst c; rw [ms_eq, ms_eq]; exact ⟨rfl, fun z => absurd rfl z⟩
        · rw [ms_ne (by omega), ms_ne (by omega)]; exact ⟨z1, z2⟩
      have h2 := hK _ (by rw [e]; exact hM2) (Gm_.rf.ms (by decide))
      rw [e] at h2
      exact h2
    · skip
      have e : nx_lose a (k : Int) = fd2_ a 1 := by unfold nx_lose; rw [if_neg (by omega), show ((k : Int)).toNat = k from rfl, if_pos (by omega)]
      refine V_aload_n (pc := 19) dX7_lose_19 rfl rfl ?_
      refine V_iconst (pc := 20) dX7_lose_20 ?_
      refine V_callV (pc := 21) (as := [_]) (rest := []) dX7_lose_21 ⟨kX7_76, iX7_finds, by decide, by decide⟩ rc_38 rfl rfl (Nat.le_of_ble_eq_true rfl) (Nat.le_of_ble_eq_true rfl) ?_
      refine ct_X7_finds (by decide) ?_
      show V_ _ _ _ _ _ _ [_] _
      refine V_ireturn (pc := 24) dX7_lose_24 rfl rfl (fun hR => ?_)
      rw [e] at hA2
      have h2 := hK _ (by rw [e]; exact h.found hA2) (Gm_.rf.ms (by decide))
      rw [e] at h2
      exact h2
  · skip
    rw [b2_0] at h4
    have e : nx_lose a s = (-2, a) := if_pos h4
    refine V_bipush (pc := 7) dX7_lose_7 (by decide) ?_
    refine V_ireturn (pc := 9) dX7_lose_9 rfl rfl (fun hR => ?_)
    have h2 := hK σ (by rw [e]; exact h) Gm_.rf
    rw [e] at h2
    exact h2
theorem ct_X7_lay {s f i x : Int} (hs : Rg_ s) (hf : Rg_ f) (hi : Rg_ i) (hx : Rg_ x) (h : MR_ a σ) (hA2 : AW_ (nx_lay a s f i x).2) (hK : ∀ τ, MR_ (nx_lay a s f i x).2 τ → Gm_ σ τ → post (some (vi_ (nx_lay a s f i x).1)) τ) : V_ l D mX7_lay (CM_ D mX7_lay post) 0 [some (vr_ 38), some (vi_ s), some (vi_ f), some (vi_ i), some (vi_ x), none] [] σ := by
  refine V_iload_n (pc := 0) dX7_lay_0 rfl rfl ?_
  refine V_callS (pc := 1) (as := [_]) (rest := []) dX7_lay_1 ⟨kX7_70, sX7_isSheet, by decide, by decide⟩ rfl rfl (Nat.le_of_ble_eq_true rfl) (Nat.le_of_ble_eq_true rfl) ?_
  refine ct_X7_isSheet hs ?_
  show V_ _ _ _ _ _ _ [_] _
  refine V_if_eq (tgt := 19) (pc := 4) dX7_lay_4 (by decide) b2_rg (fun h4 => ?_) (fun h4 => ?_)
  · skip
    rw [b2_0] at h4
    have e : nx_lay a s f i x = (-2, a) := if_pos (Or.inl h4)
    refine V_bipush (pc := 19) dX7_lay_19 (by decide) ?_
    refine V_ireturn (pc := 21) dX7_lay_21 rfl rfl (fun hR => ?_)
    have h2 := hK σ (by rw [e]; exact h) Gm_.rf
    rw [e] at h2
    exact h2
  · skip
    rw [b2_n0] at h4
    obtain ⟨k, rfl⟩ := i_nat h4.1
    have hk : k < 4 := by omega
    have hS := h.2.2.2.2.2 k hk
    obtain ⟨w1, w2⟩ := h.1.2.2.2.2.2.1 k hk
    refine V_iload_n (pc := 7) dX7_lay_7 rfl rfl ?_
    refine V_i2l (pc := 8) dX7_lay_8 (by first | assumption | exact b2_rg | decide | (constructor <;> omega)) ?_
    refine V_lconst (z := 0) (pc := 9) dX7_lay_9 rfl ?_
    refine V_ldc2 (v := (2)) (z := 2) (pc := 10) dX7_lay_10 (tb_in 833 (by decide +kernel) rfl) (by decide +kernel) ?_
    refine V_callS (pc := 13) (as := [_, _, _]) (rest := []) dX7_lay_13 ⟨kX7_61, sX7_in, by decide, by decide⟩ rfl rfl (Nat.le_of_ble_eq_true rfl) (Nat.le_of_ble_eq_true rfl) ?_
    refine ct_X7_in (by constructor <;> omega) (by decide) (by decide) ?_
    show V_ _ _ _ _ _ _ [_] _
    refine V_if_ne (tgt := 22) (pc := 16) dX7_lay_16 (by decide) b2_rg (fun h16 => ?_) (fun h16 => ?_)
    · skip
      rw [b2_n0] at h16
      refine V_aload_n (pc := 22) dX7_lay_22 rfl rfl ?_
      refine V_iload_n (pc := 23) dX7_lay_23 rfl rfl ?_
      refine V_iload_n (pc := 24) dX7_lay_24 rfl rfl ?_
      refine V_iload_n (pc := 25) dX7_lay_25 rfl rfl ?_
      refine V_callV (pc := 26) (as := [_, _, _]) (rest := []) dX7_lay_26 ⟨kX7_80, iX7_lacks, by decide, by decide⟩ rc_38 rfl rfl (Nat.le_of_ble_eq_true rfl) (Nat.le_of_ble_eq_true rfl) ?_
      refine ct_X7_lacks hk h16 hi h.1 h.2.2.2.2.2 (fun e0 => ?_) (fun e0 => ?_)
      · show V_ _ _ _ _ _ _ [_] _
        have hz0 : a 11 k = f ∧ 0 ≤ i ∧ i < a 12 k ∧ a 11 k ≠ -1 := by
          unfold lk_ at e0
          (repeat' split at e0) <;> first | (exfalso; omega) | (refine ⟨?_, ?_, ?_, ?_⟩ <;> omega)
        obtain ⟨z0, z1, z2, z3⟩ := hz0
        obtain ⟨j, rfl⟩ := i_nat z1
        have zS := hS.2 z3
        have e : nx_lay a (k : Int) f (j : Int) x = (1, ms_ a (13 + k) j (cu_ f x)) := by unfold nx_lay; rw [if_neg (by omega), show ((k : Int)).toNat = k from rfl, if_neg (fun z => z e0)]; rfl
        rw [e] at hA2
        refine V_istore (pc := 29) dX7_lay_29 (by decide) rfl ?_
        show V_ _ _ _ _ _ [_, _, _, _, _, _] _ _
        refine V_iload (pc := 31) dX7_lay_31 rfl ?_
        refine V_if_eq (tgt := 39) (pc := 33) dX7_lay_33 (by decide) (by first | assumption | exact b2_rg | decide | exact cu_rg hx | (constructor <;> omega)) (fun h33 => ?_) (fun h33 => by exact absurd h33 (by decide))
        refine V_aload_n (pc := 39) dX7_lay_39 rfl rfl ?_
        refine V_getr (pc := 40) dX7_lay_40 fX7_16 rfl gg_38 rfl ?_
        refine V_bipush (pc := 43) dX7_lay_43 (by decide) ?_
        refine V_iload_n (pc := 45) dX7_lay_45 rfl rfl ?_
        refine V_imul (pc := 46) dX7_lay_46 ?_
        refine V_iload_n (pc := 47) dX7_lay_47 rfl rfl ?_
        refine V_iadd (pc := 48) dX7_lay_48 ?_
        refine V_iload_n (pc := 49) dX7_lay_49 rfl rfl ?_
        refine V_iload (pc := 50) dX7_lay_50 rfl ?_
        refine V_callS (pc := 52) (as := [_, _]) (rest := [_, _]) dX7_lay_52 ⟨kX7_84, sX7_cut, by decide, by decide⟩ rfl rfl (Nat.le_of_ble_eq_true rfl) (Nat.le_of_ble_eq_true rfl) ?_
        refine ct_X7_cut h16 hx ?_
        show V_ _ _ _ _ _ _ [_, _, _] _
        refine V_iast (pc := 55) dX7_lay_55 gg_41 (by have : ((240 : Nat) : Int) = 240 := rfl; omega) (by decide) (by first | assumption | exact b2_rg | decide | exact cu_rg hx | (constructor <;> omega)) ?_
        rw [show (60 * (k : Int) + (j : Int)).toNat = 60 * k + j by omega]
        refine V_iconst (pc := 56) dX7_lay_56 ?_
        refine V_ireturn (pc := 57) dX7_lay_57 rfl rfl (fun hR => ?_)
        have hM2 : MR_ (ms_ a (13 + k) j (cu_ f x)) (ms_ σ 41 (60 * k + j) (cu_ f x)) := by
          refine h.sht hA2 (fun q q1 q2 q3 q4 => ms_rw q3) (fun q hq => ms_rw (by omega)) (fun u hu => ?_)
          obtain ⟨y1, y2⟩ := h.2.2.2.2.2 u hu
          obtain ⟨v1, v2⟩ := h.1.2.2.2.2.2.1 u hu
          rw [ms_rw (by decide : (39 : Nat) ≠ 41), ms_rw (by decide : (40 : Nat) ≠ 41), ms_rw (show 11 ≠ 13 + k by omega), ms_rw (show 12 ≠ 13 + k by omega)]
          refine ⟨y1, fun z => ⟨(y2 z).1, fun q hq => ?_⟩⟩
          by_cases c : u = k ∧ q = j
          · obtain ⟨c1, c2⟩ := c
            subst c1; subst c2
            rw [ms_eq, ms_eq]
          · rw [ms_ne (by omega), ms_ne (by omega)]; exact (y2 z).2 q hq
        have h2 := hK _ (by rw [e]; exact hM2) (Gm_.rf.ms (by decide))
        rw [e] at h2
        exact h2
      · show V_ _ _ _ _ _ _ [_] _
        have hl0 : 1 ≤ lk_ a k f i ∧ lk_ a k f i ≤ 3 := by
          unfold lk_ at e0 ⊢
          (repeat' split) <;> omega
        have e : nx_lay a (k : Int) f i x = fd2_ a (lk_ a k f i) := by unfold nx_lay; rw [if_neg (by omega), show ((k : Int)).toNat = k from rfl, if_pos e0]
        refine V_istore (pc := 29) dX7_lay_29 (by decide) rfl ?_
        show V_ _ _ _ _ _ [_, _, _, _, _, _] _ _
        refine V_iload (pc := 31) dX7_lay_31 rfl ?_
        refine V_if_eq (tgt := 39) (pc := 33) dX7_lay_33 (by decide) (by first | assumption | exact b2_rg | decide | (constructor <;> omega)) (fun h33 => by omega) (fun h33 => ?_)
        refine V_iload (pc := 36) dX7_lay_36 rfl ?_
        refine V_ireturn (pc := 38) dX7_lay_38 rfl rfl (fun hR => ?_)
        rw [e] at hA2
        have h2 := hK _ (by rw [e]; exact h.found hA2) (Gm_.rf.ms (by decide))
        rw [e] at h2
        exact h2
    · skip
      rw [b2_0] at h16
      have e : nx_lay a (k : Int) f i x = (-2, a) := if_pos (Or.inr h16)
      refine V_bipush (pc := 19) dX7_lay_19 (by decide) ?_
      refine V_ireturn (pc := 21) dX7_lay_21 rfl rfl (fun hR => ?_)
      have h2 := hK σ (by rw [e]; exact h) Gm_.rf
      rw [e] at h2
      exact h2
theorem ct_X7_get {s f i : Int} (hs : Rg_ s) (hf : Rg_ f) (hi : Rg_ i) (h : MR_ a σ) (hA2 : AW_ (nx_get a s f i).2) (hK : ∀ τ, MR_ (nx_get a s f i).2 τ → Gm_ σ τ → post (some (vi_ (nx_get a s f i).1)) τ) : V_ l D mX7_get (CM_ D mX7_get post) 0 [some (vr_ 38), some (vi_ s), some (vi_ f), some (vi_ i)] [] σ := by
  refine V_iload_n (pc := 0) dX7_get_0 rfl rfl ?_
  refine V_callS (pc := 1) (as := [_]) (rest := []) dX7_get_1 ⟨kX7_70, sX7_isSheet, by decide, by decide⟩ rfl rfl (Nat.le_of_ble_eq_true rfl) (Nat.le_of_ble_eq_true rfl) ?_
  refine ct_X7_isSheet hs ?_
  show V_ _ _ _ _ _ _ [_] _
  refine V_if_eq (tgt := 29) (pc := 4) dX7_get_4 (by decide) b2_rg (fun h4 => ?_) (fun h4 => ?_)
  · skip
    rw [b2_0] at h4
    have e : nx_get a s f i = (-2147483648, a) := if_pos (Or.inl h4)
    refine V_ldc (v := (-2147483648)) (z := -2147483648) (pc := 29) dX7_get_29 (tb_in 857 (by decide +kernel) rfl) (by decide +kernel) ?_
    refine V_ireturn (pc := 31) dX7_get_31 rfl rfl (fun hR => ?_)
    have h2 := hK σ (by rw [e]; exact h) Gm_.rf
    rw [e] at h2
    exact h2
  · skip
    rw [b2_n0] at h4
    obtain ⟨k, rfl⟩ := i_nat h4.1
    have hk : k < 4 := by omega
    have hS := h.2.2.2.2.2 k hk
    obtain ⟨w1, w2⟩ := h.1.2.2.2.2.2.1 k hk
    refine V_iload_n (pc := 7) dX7_get_7 rfl rfl ?_
    refine V_i2l (pc := 8) dX7_get_8 (by first | assumption | exact b2_rg | decide | (constructor <;> omega)) ?_
    refine V_lconst (z := 0) (pc := 9) dX7_get_9 rfl ?_
    refine V_ldc2 (v := (2)) (z := 2) (pc := 10) dX7_get_10 (tb_in 833 (by decide +kernel) rfl) (by decide +kernel) ?_
    refine V_callS (pc := 13) (as := [_, _, _]) (rest := []) dX7_get_13 ⟨kX7_61, sX7_in, by decide, by decide⟩ rfl rfl (Nat.le_of_ble_eq_true rfl) (Nat.le_of_ble_eq_true rfl) ?_
    refine ct_X7_in (by constructor <;> omega) (by decide) (by decide) ?_
    show V_ _ _ _ _ _ _ [_] _
    refine V_if_eq (tgt := 29) (pc := 16) dX7_get_16 (by decide) b2_rg (fun h16 => ?_) (fun h16 => ?_)
    · skip
      rw [b2_0] at h16
      have e : nx_get a (k : Int) f i = (-2147483648, a) := if_pos (Or.inr h16)
      refine V_ldc (v := (-2147483648)) (z := -2147483648) (pc := 29) dX7_get_29 (tb_in 857 (by decide +kernel) rfl) (by decide +kernel) ?_
      refine V_ireturn (pc := 31) dX7_get_31 rfl rfl (fun hR => ?_)
      have h2 := hK σ (by rw [e]; exact h) Gm_.rf
      rw [e] at h2
      exact h2
    · skip
      rw [b2_n0] at h16
      refine V_aload_n (pc := 19) dX7_get_19 rfl rfl ?_
      refine V_iload_n (pc := 20) dX7_get_20 rfl rfl ?_
      refine V_iload_n (pc := 21) dX7_get_21 rfl rfl ?_
      refine V_iload_n (pc := 22) dX7_get_22 rfl rfl ?_
      refine V_callV (pc := 23) (as := [_, _, _]) (rest := []) dX7_get_23 ⟨kX7_80, iX7_lacks, by decide, by decide⟩ rc_38 rfl rfl (Nat.le_of_ble_eq_true rfl) (Nat.le_of_ble_eq_true rfl) ?_
      refine ct_X7_lacks hk h16 hi h.1 h.2.2.2.2.2 (fun e0 => ?_) (fun e0 => ?_)
      · show V_ _ _ _ _ _ _ [_] _
        have hz0 : a 11 k = f ∧ 0 ≤ i ∧ i < a 12 k ∧ a 11 k ≠ -1 := by
          unfold lk_ at e0
          (repeat' split at e0) <;> first | (exfalso; omega) | (refine ⟨?_, ?_, ?_, ?_⟩ <;> omega)
        obtain ⟨z0, z1, z2, z3⟩ := hz0
        obtain ⟨j, rfl⟩ := i_nat z1
        have zS := hS.2 z3
        have e : nx_get a (k : Int) f (j : Int) = (a (13 + k) j, a) := by unfold nx_get; rw [if_neg (by omega), show ((k : Int)).toNat = k from rfl, if_neg (fun z => z e0)]; rfl
        refine V_if_eq (tgt := 32) (pc := 26) dX7_get_26 (by decide) (by first | assumption | exact b2_rg | decide | (constructor <;> omega)) (fun h26 => ?_) (fun h26 => by exact absurd h26 (by decide))
        refine V_aload_n (pc := 32) dX7_get_32 rfl rfl ?_
        refine V_getr (pc := 33) dX7_get_33 fX7_16 rfl gg_38 rfl ?_
        refine V_bipush (pc := 36) dX7_get_36 (by decide) ?_
        refine V_iload_n (pc := 38) dX7_get_38 rfl rfl ?_
        refine V_imul (pc := 39) dX7_get_39 ?_
        refine V_iload_n (pc := 40) dX7_get_40 rfl rfl ?_
        refine V_iadd (pc := 41) dX7_get_41 ?_
        refine V_iald (pc := 42) dX7_get_42 gg_41 (by have : ((240 : Nat) : Int) = 240 := rfl; omega) (by decide) (fun r42 => ?_)
        rw [show (60 * (k : Int) + (j : Int)).toNat = 60 * k + j by omega, zS.2 j z2] at r42 ⊢
        refine V_ireturn (pc := 43) dX7_get_43 rfl rfl (fun hR => ?_)
        have h2 := hK σ (by rw [e]; exact h) Gm_.rf
        rw [e] at h2
        exact h2
      · show V_ _ _ _ _ _ _ [_] _
        have hl0 : 1 ≤ lk_ a k f i ∧ lk_ a k f i ≤ 3 := by
          unfold lk_ at e0 ⊢
          (repeat' split) <;> omega
        have e : nx_get a (k : Int) f i = (-2147483648, ms_ a 17 0 (lk_ a k f i)) := by unfold nx_get; rw [if_neg (by omega), show ((k : Int)).toNat = k from rfl, if_pos e0]
        refine V_if_eq (tgt := 32) (pc := 26) dX7_get_26 (by decide) (by first | assumption | exact b2_rg | decide | (constructor <;> omega)) (fun h26 => by omega) (fun h26 => ?_)
        refine V_ldc (v := (-2147483648)) (z := -2147483648) (pc := 29) dX7_get_29 (tb_in 857 (by decide +kernel) rfl) (by decide +kernel) ?_
        refine V_ireturn (pc := 31) dX7_get_31 rfl rfl (fun hR => ?_)
        rw [e] at hA2
        have h2 := hK _ (by rw [e]; exact h.found hA2) (Gm_.rf.ms (by decide))
        rw [e] at h2
        exact h2
end
