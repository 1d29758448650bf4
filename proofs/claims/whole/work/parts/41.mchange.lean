/-! ## class DrownedNamesModel: what changes the state: texts, struck ones, losses, what was seen -/
theorem MR_.txt {a a' σ σ' : Mm_} (h : MR_ a σ) (hA : AW_ a') (e : ∀ q, q ≠ 43 → q ≠ 44 → σ' q = σ q) (ea : ∀ k, 4 ≤ k → a' k = a k) (hT : MT_ 0 (a' 0 0) (a' 1) σ' ∧ MT_ 1 (a' 0 1) (a' 2) σ' ∧ MT_ 2 (a' 0 2) (a' 3) σ') : MR_ a' σ' := by
  obtain ⟨h1, _, h3, h4, h5, h6⟩ := h
  refine ⟨hA, hT, ?_, ?_, ?_, ?_⟩
  · rw [e 38 (by decide) (by decide), ea 4 (by decide), ea 17 (by decide)]; exact h3
  · unfold ML_ at h4 ⊢; rw [e 38 (by decide) (by decide), e 49 (by decide) (by decide), ea 5 (by decide), ea 6 (by decide), ea 7 (by decide)]; exact h4
  · unfold MG_ at h5 ⊢; rw [e 38 (by decide) (by decide), e 52 (by decide) (by decide), ea 8 (by decide), ea 9 (by decide), ea 10 (by decide)]; exact h5
  · intro s hs
    have := h6 s hs
    rw [e 39 (by decide) (by decide), e 40 (by decide) (by decide), e 41 (by decide) (by decide), ea 11 (by decide), ea 12 (by decide), ea (13 + s) (by omega)]
    exact this
/-- a change of what lies ahead of the sheets in no text: struck, losses, seen, the latest finding -/
theorem MR_.oth {a a' σ σ' : Mm_} (h : MR_ a σ) (hA : AW_ a') (e : ∀ q, q ≠ 38 → q ≠ 49 → q ≠ 52 → σ' q = σ q) (ea : ∀ k, (k ≤ 3 ∨ (11 ≤ k ∧ k ≤ 16)) → a' k = a k) (h3 : σ' 38 12 = a' 4 0 ∧ σ' 38 4 = a' 17 0 ∧ σ' 38 21 = 255) (h4 : ML_ a' σ') (h5 : MG_ a' σ') : MR_ a' σ' := by
  obtain ⟨_, ⟨t0, t1, t2⟩, _, _, _, h6⟩ := h
  have e3 := e 43 (by decide) (by decide) (by decide)
  have e4 := e 44 (by decide) (by decide) (by decide)
  refine ⟨hA, ⟨?_, ?_, ?_⟩, h3, h4, h5, ?_⟩
  · rw [ea 0 (by decide), ea 1 (by decide)]; exact t0.cg e4 e3
  · rw [ea 0 (by decide), ea 2 (by decide)]; exact t1.cg e4 e3
  · rw [ea 0 (by decide), ea 3 (by decide)]; exact t2.cg e4 e3
  · intro s hs
    have := h6 s hs
    rw [e 39 (by decide) (by decide) (by decide), e 40 (by decide) (by decide) (by decide), e 41 (by decide) (by decide) (by decide), ea 11 (by decide), ea 12 (by decide), ea (13 + s) (by omega)]
    exact this
theorem Gm_.ms {σ τ : Mm_} {k j : Nat} {x : Int} (h : Gm_ σ τ) (hk : 38 ≤ k) : Gm_ σ (ms_ τ k j x) := fun q hq => by rw [ms_rw (by omega)]; exact h q hq
section
variable {l : Launch} {D : Dt_} {a σ : Mm_} {post : Option Av_ → Mm_ → Prop}
theorem ct_X7_type_0 {b : Int} (hb : Rg_ b) (h : MR_ a σ) (hA2 : AW_ (nx_type a 0 b).2) (hK : ∀ τ, MR_ (nx_type a 0 b).2 τ → Gm_ σ τ → post (some (vi_ (nx_type a 0 b).1)) τ) : V_ l D mX7_type (CM_ D mX7_type post) 0 [some (vr_ 38), some (vi_ 0), some (vi_ b)] [] σ := by
  have hA := h.1
  obtain ⟨hT0, hT1, hT2⟩ := h.2.1
  have h0 := hA.1
  obtain ⟨q, hq⟩ := i_nat (show 0 ≤ a 0 0 by omega)
  have et : σ 44 0 = (q : Int) := hT0.1.trans hq
  refine V_iload_n (pc := 0) dX7_type_0 rfl rfl ?_
  refine V_callS (pc := 1) (as := [_]) (rest := []) dX7_type_1 ⟨kX7_89, sX7_isText, by decide, by decide⟩ rfl rfl (Nat.le_of_ble_eq_true rfl) (Nat.le_of_ble_eq_true rfl) ?_
  refine ct_X7_isText (by decide) ?_
  show V_ _ _ _ _ _ _ [_] _
  refine V_if_eq (tgt := 19) (pc := 4) dX7_type_4 (by decide) b2_rg (fun h4 => by rw [b2_0] at h4; omega) (fun h4 => ?_)
  refine V_iload_n (pc := 7) dX7_type_7 rfl rfl ?_
  refine V_i2l (pc := 8) dX7_type_8 (by first | assumption | exact b2_rg | decide | (constructor <;> omega)) ?_
  refine V_lconst (z := 0) (pc := 9) dX7_type_9 rfl ?_
  refine V_ldc2 (v := (255)) (z := 255) (pc := 10) dX7_type_10 (tb_in 869 (by decide +kernel) rfl) (by decide +kernel) ?_
  refine V_callS (pc := 13) (as := [_, _, _]) (rest := []) dX7_type_13 ⟨kX7_61, sX7_in, by decide, by decide⟩ rfl rfl (Nat.le_of_ble_eq_true rfl) (Nat.le_of_ble_eq_true rfl) ?_
  refine ct_X7_in (by constructor <;> omega) (by decide) (by decide) ?_
  show V_ _ _ _ _ _ _ [_] _
  refine V_if_ne (tgt := 22) (pc := 16) dX7_type_16 (by decide) b2_rg (fun h16 => ?_) (fun h16 => ?_)
  · skip
    rw [b2_n0] at h16
    refine V_aload_n (pc := 22) dX7_type_22 rfl rfl ?_
    refine V_getr (pc := 23) dX7_type_23 fX7_25 rfl gg_38 rfl ?_
    refine V_iload_n (pc := 26) dX7_type_26 rfl rfl ?_
    refine V_iald (pc := 27) dX7_type_27 gg_44 (by decide) (by decide) (fun r27 => ?_)
    rw [show σ 44 (0 : Int).toNat = (q : Int) from et] at r27 ⊢
    refine V_iload_n (pc := 28) dX7_type_28 rfl rfl ?_
    refine V_if_ne (tgt := 37) (pc := 29) dX7_type_29 (by decide) (by first | assumption | exact b2_rg | decide | (constructor <;> omega)) (fun h29 => by exact absurd h29 (by decide)) (fun h29 => ?_)
    refine V_bipush (pc := 32) dX7_type_32 (by decide) ?_
    refine V_goto (tgt := 49) (pc := 34) dX7_type_34 (by decide) ?_
    refine V_icmp_ne (tgt := 55) (pc := 49) dX7_type_49 (by decide) (by first | assumption | exact b2_rg | decide | (constructor <;> omega)) (by first | assumption | exact b2_rg | decide | (constructor <;> omega)) (fun h49 => ?_) (fun h49 => ?_)
    · skip
      have e : nx_type a 0 b = ((q : Int) + 1, ms_ (ms_ a 1 q b) 0 0 ((q : Int) + 1)) := by
        unfold nx_type
        rw [if_neg (by omega), show ((0 : Int)).toNat = 0 from rfl, if_neg (show ¬ cap_ 0 ≤ a 0 0 by show ¬ (23 : Int) ≤ _; omega), hq]
        rfl
      rw [e] at hA2
      refine V_aload_n (pc := 55) dX7_type_55 rfl rfl ?_
      refine V_getr (pc := 56) dX7_type_56 fX7_22 rfl gg_38 rfl ?_
      refine V_bipush (pc := 59) dX7_type_59 (by decide) ?_
      refine V_iload_n (pc := 61) dX7_type_61 rfl rfl ?_
      refine V_imul (pc := 62) dX7_type_62 ?_
      refine V_aload_n (pc := 63) dX7_type_63 rfl rfl ?_
      refine V_getr (pc := 64) dX7_type_64 fX7_25 rfl gg_38 rfl ?_
      refine V_iload_n (pc := 67) dX7_type_67 rfl rfl ?_
      refine V_iald (pc := 68) dX7_type_68 gg_44 (by decide) (by decide) (fun r68 => ?_)
      rw [show σ 44 (0 : Int).toNat = (q : Int) from et] at r68 ⊢
      refine V_iadd (pc := 69) dX7_type_69 ?_
      refine V_iload_n (pc := 70) dX7_type_70 rfl rfl ?_
      refine V_iast (pc := 71) dX7_type_71 gg_43 (by have : ((180 : Nat) : Int) = 180 := rfl; omega) (by decide) (by first | assumption | exact b2_rg | decide | (constructor <;> omega)) ?_
      rw [show (60 * 0 + (q : Int)).toNat = 60 * 0 + q by omega]
      refine V_aload_n (pc := 72) dX7_type_72 rfl rfl ?_
      refine V_getr (pc := 73) dX7_type_73 fX7_25 rfl gg_38 rfl ?_
      refine V_iload_n (pc := 76) dX7_type_76 rfl rfl ?_
      refine V_dup2 (pc := 77) dX7_type_77 rfl rfl ?_
      refine V_iald (pc := 78) dX7_type_78 gg_44 (by decide) (by decide) (fun r78 => ?_)
      rw [show ms_ σ 43 (60 * 0 + q) b 44 (0 : Int).toNat = (q : Int) from by rw [ms_nk (by decide)]; exact et] at r78 ⊢
      refine V_iconst (pc := 79) dX7_type_79 ?_
      refine V_iadd (pc := 80) dX7_type_80 ?_
      refine V_iast (pc := 81) dX7_type_81 gg_44 (by decide) (by decide) (by first | assumption | exact b2_rg | decide | (constructor <;> omega)) ?_
      rw [show (0 : Int).toNat = 0 from rfl]
      refine V_aload_n (pc := 82) dX7_type_82 rfl rfl ?_
      refine V_getr (pc := 83) dX7_type_83 fX7_25 rfl gg_38 rfl ?_
      refine V_iload_n (pc := 86) dX7_type_86 rfl rfl ?_
      refine V_iald (pc := 87) dX7_type_87 gg_44 (by decide) (by decide) (fun r87 => ?_)
      rw [show (ms_ (ms_ σ 43 (60 * 0 + q) b) 44 0 ((q : Int) + 1)) 44 (0 : Int).toNat = (q : Int) + 1 from ms_eq] at r87 ⊢
      refine V_ireturn (pc := 88) dX7_type_88 rfl rfl (fun hR => ?_)
      have hM2 : MR_ (ms_ (ms_ a 1 q b) 0 0 ((q : Int) + 1)) (ms_ (ms_ σ 43 (60 * 0 + q) b) 44 0 ((q : Int) + 1)) := by
        refine h.txt hA2 (fun q h1 h2 => by rw [ms_rw h2, ms_rw h1]) (fun k hk => by rw [ms_rw (by omega), ms_rw (by omega)]) ⟨?_, ?_, ?_⟩
        · refine ⟨by rw [ms_eq, ms_eq], fun i hi => ?_⟩
          by_cases c : i = q
          · rw [show ((ms_ (ms_ σ 43 (60 * 0 + q) b) 44 0 ((q : Int) + 1)) 43 (60 * 0 + i)) = b from by unfold ms_; rw [if_neg (by omega), if_pos (by omega)], show ((ms_ (ms_ a 1 q b) 0 0 ((q : Int) + 1)) 1 i) = b from by unfold ms_; rw [if_neg (by omega), if_pos (by omega)]]
          · rw [show ((ms_ (ms_ σ 43 (60 * 0 + q) b) 44 0 ((q : Int) + 1)) 43 (60 * 0 + i)) = σ 43 (60 * 0 + i) from by unfold ms_; rw [if_neg (by omega), if_neg (by omega)], show ((ms_ (ms_ a 1 q b) 0 0 ((q : Int) + 1)) 1 i) = a 1 i from by unfold ms_; rw [if_neg (by omega), if_neg (by omega)]]; exact hT0.2 i hi
        · refine ⟨?_, fun i hi => ?_⟩
          · rw [show ((ms_ (ms_ σ 43 (60 * 0 + q) b) 44 0 ((q : Int) + 1)) 44 1) = σ 44 1 from by unfold ms_; rw [if_neg (by omega), if_neg (by omega)], show ((ms_ (ms_ a 1 q b) 0 0 ((q : Int) + 1)) 0 1) = a 0 1 from by unfold ms_; rw [if_neg (by omega), if_neg (by omega)]]; exact hT1.1
          · rw [show ((ms_ (ms_ σ 43 (60 * 0 + q) b) 44 0 ((q : Int) + 1)) 43 (60 * 1 + i)) = σ 43 (60 * 1 + i) from by unfold ms_; rw [if_neg (by omega), if_neg (by omega)], show ((ms_ (ms_ a 1 q b) 0 0 ((q : Int) + 1)) 2 i) = a 2 i from by unfold ms_; rw [if_neg (by omega), if_neg (by omega)]]; exact hT1.2 i hi
        · refine ⟨?_, fun i hi => ?_⟩
          · rw [show ((ms_ (ms_ σ 43 (60 * 0 + q) b) 44 0 ((q : Int) + 1)) 44 2) = σ 44 2 from by unfold ms_; rw [if_neg (by omega), if_neg (by omega)], show ((ms_ (ms_ a 1 q b) 0 0 ((q : Int) + 1)) 0 2) = a 0 2 from by unfold ms_; rw [if_neg (by omega), if_neg (by omega)]]; exact hT2.1
          · rw [show ((ms_ (ms_ σ 43 (60 * 0 + q) b) 44 0 ((q : Int) + 1)) 43 (60 * 2 + i)) = σ 43 (60 * 2 + i) from by unfold ms_; rw [if_neg (by omega), if_neg (by omega)], show ((ms_ (ms_ a 1 q b) 0 0 ((q : Int) + 1)) 3 i) = a 3 i from by unfold ms_; rw [if_neg (by omega), if_neg (by omega)]]; exact hT2.2 i hi
      have h2 := hK _ (by rw [e]; exact hM2) ((Gm_.rf.ms (by decide)).ms (by decide))
      rw [e] at h2
      exact h2
    · skip
      have e : nx_type a 0 b = (-4, a) := by unfold nx_type; rw [if_neg (by omega), show ((0 : Int)).toNat = 0 from rfl, if_pos (show cap_ 0 ≤ a 0 0 by show (23 : Int) ≤ _; omega)]
      refine V_bipush (pc := 52) dX7_type_52 (by decide) ?_
      refine V_ireturn (pc := 54) dX7_type_54 rfl rfl (fun hR => ?_)
      have h2 := hK σ (by rw [e]; exact h) Gm_.rf
      rw [e] at h2
      exact h2
  · skip
    rw [b2_0] at h16
    have e : nx_type a 0 b = (-2, a) := by unfold nx_type; rw [if_pos (by omega)]
    refine V_bipush (pc := 19) dX7_type_19 (by decide) ?_
    refine V_ireturn (pc := 21) dX7_type_21 rfl rfl (fun hR => ?_)
    have h2 := hK σ (by rw [e]; exact h) Gm_.rf
    rw [e] at h2
    exact h2
theorem ct_X7_type_1 {b : Int} (hb : Rg_ b) (h : MR_ a σ) (hA2 : AW_ (nx_type a 1 b).2) (hK : ∀ τ, MR_ (nx_type a 1 b).2 τ → Gm_ σ τ → post (some (vi_ (nx_type a 1 b).1)) τ) : V_ l D mX7_type (CM_ D mX7_type post) 0 [some (vr_ 38), some (vi_ 1), some (vi_ b)] [] σ := by
  have hA := h.1
  obtain ⟨hT0, hT1, hT2⟩ := h.2.1
  have h0 := hA.1
  obtain ⟨q, hq⟩ := i_nat (show 0 ≤ a 0 1 by omega)
  have et : σ 44 1 = (q : Int) := hT1.1.trans hq
  refine V_iload_n (pc := 0) dX7_type_0 rfl rfl ?_
  refine V_callS (pc := 1) (as := [_]) (rest := []) dX7_type_1 ⟨kX7_89, sX7_isText, by decide, by decide⟩ rfl rfl (Nat.le_of_ble_eq_true rfl) (Nat.le_of_ble_eq_true rfl) ?_
  refine ct_X7_isText (by decide) ?_
  show V_ _ _ _ _ _ _ [_] _
  refine V_if_eq (tgt := 19) (pc := 4) dX7_type_4 (by decide) b2_rg (fun h4 => by rw [b2_0] at h4; omega) (fun h4 => ?_)
  refine V_iload_n (pc := 7) dX7_type_7 rfl rfl ?_
  refine V_i2l (pc := 8) dX7_type_8 (by first | assumption | exact b2_rg | decide | (constructor <;> omega)) ?_
  refine V_lconst (z := 0) (pc := 9) dX7_type_9 rfl ?_
  refine V_ldc2 (v := (255)) (z := 255) (pc := 10) dX7_type_10 (tb_in 869 (by decide +kernel) rfl) (by decide +kernel) ?_
  refine V_callS (pc := 13) (as := [_, _, _]) (rest := []) dX7_type_13 ⟨kX7_61, sX7_in, by decide, by decide⟩ rfl rfl (Nat.le_of_ble_eq_true rfl) (Nat.le_of_ble_eq_true rfl) ?_
  refine ct_X7_in (by constructor <;> omega) (by decide) (by decide) ?_
  show V_ _ _ _ _ _ _ [_] _
  refine V_if_ne (tgt := 22) (pc := 16) dX7_type_16 (by decide) b2_rg (fun h16 => ?_) (fun h16 => ?_)
  · skip
    rw [b2_n0] at h16
    refine V_aload_n (pc := 22) dX7_type_22 rfl rfl ?_
    refine V_getr (pc := 23) dX7_type_23 fX7_25 rfl gg_38 rfl ?_
    refine V_iload_n (pc := 26) dX7_type_26 rfl rfl ?_
    refine V_iald (pc := 27) dX7_type_27 gg_44 (by decide) (by decide) (fun r27 => ?_)
    rw [show σ 44 (1 : Int).toNat = (q : Int) from et] at r27 ⊢
    refine V_iload_n (pc := 28) dX7_type_28 rfl rfl ?_
    refine V_if_ne (tgt := 37) (pc := 29) dX7_type_29 (by decide) (by first | assumption | exact b2_rg | decide | (constructor <;> omega)) (fun h29 => ?_) (fun h29 => by exact absurd h29 (by decide))
    refine V_iload_n (pc := 37) dX7_type_37 rfl rfl ?_
    refine V_iconst (pc := 38) dX7_type_38 ?_
    refine V_icmp_ne (tgt := 47) (pc := 39) dX7_type_39 (by decide) (by first | assumption | exact b2_rg | decide | (constructor <;> omega)) (by first | assumption | exact b2_rg | decide | (constructor <;> omega)) (fun h39 => by exact absurd h39 (by decide)) (fun h39 => ?_)
    refine V_bipush (pc := 42) dX7_type_42 (by decide) ?_
    refine V_goto (tgt := 49) (pc := 44) dX7_type_44 (by decide) ?_
    refine V_icmp_ne (tgt := 55) (pc := 49) dX7_type_49 (by decide) (by first | assumption | exact b2_rg | decide | (constructor <;> omega)) (by first | assumption | exact b2_rg | decide | (constructor <;> omega)) (fun h49 => ?_) (fun h49 => ?_)
    · skip
      have e : nx_type a 1 b = ((q : Int) + 1, ms_ (ms_ a 2 q b) 0 1 ((q : Int) + 1)) := by
        unfold nx_type
        rw [if_neg (by omega), show ((1 : Int)).toNat = 1 from rfl, if_neg (show ¬ cap_ 1 ≤ a 0 1 by show ¬ (39 : Int) ≤ _; omega), hq]
        rfl
      rw [e] at hA2
      refine V_aload_n (pc := 55) dX7_type_55 rfl rfl ?_
      refine V_getr (pc := 56) dX7_type_56 fX7_22 rfl gg_38 rfl ?_
      refine V_bipush (pc := 59) dX7_type_59 (by decide) ?_
      refine V_iload_n (pc := 61) dX7_type_61 rfl rfl ?_
      refine V_imul (pc := 62) dX7_type_62 ?_
      refine V_aload_n (pc := 63) dX7_type_63 rfl rfl ?_
      refine V_getr (pc := 64) dX7_type_64 fX7_25 rfl gg_38 rfl ?_
      refine V_iload_n (pc := 67) dX7_type_67 rfl rfl ?_
      refine V_iald (pc := 68) dX7_type_68 gg_44 (by decide) (by decide) (fun r68 => ?_)
      rw [show σ 44 (1 : Int).toNat = (q : Int) from et] at r68 ⊢
      refine V_iadd (pc := 69) dX7_type_69 ?_
      refine V_iload_n (pc := 70) dX7_type_70 rfl rfl ?_
      refine V_iast (pc := 71) dX7_type_71 gg_43 (by have : ((180 : Nat) : Int) = 180 := rfl; omega) (by decide) (by first | assumption | exact b2_rg | decide | (constructor <;> omega)) ?_
      rw [show (60 * 1 + (q : Int)).toNat = 60 * 1 + q by omega]
      refine V_aload_n (pc := 72) dX7_type_72 rfl rfl ?_
      refine V_getr (pc := 73) dX7_type_73 fX7_25 rfl gg_38 rfl ?_
      refine V_iload_n (pc := 76) dX7_type_76 rfl rfl ?_
      refine V_dup2 (pc := 77) dX7_type_77 rfl rfl ?_
      refine V_iald (pc := 78) dX7_type_78 gg_44 (by decide) (by decide) (fun r78 => ?_)
      rw [show ms_ σ 43 (60 * 1 + q) b 44 (1 : Int).toNat = (q : Int) from by rw [ms_nk (by decide)]; exact et] at r78 ⊢
      refine V_iconst (pc := 79) dX7_type_79 ?_
      refine V_iadd (pc := 80) dX7_type_80 ?_
      refine V_iast (pc := 81) dX7_type_81 gg_44 (by decide) (by decide) (by first | assumption | exact b2_rg | decide | (constructor <;> omega)) ?_
      rw [show (1 : Int).toNat = 1 from rfl]
      refine V_aload_n (pc := 82) dX7_type_82 rfl rfl ?_
      refine V_getr (pc := 83) dX7_type_83 fX7_25 rfl gg_38 rfl ?_
      refine V_iload_n (pc := 86) dX7_type_86 rfl rfl ?_
      refine V_iald (pc := 87) dX7_type_87 gg_44 (by decide) (by decide) (fun r87 => ?_)
      rw [show (ms_ (ms_ σ 43 (60 * 1 + q) b) 44 1 ((q : Int) + 1)) 44 (1 : Int).toNat = (q : Int) + 1 from ms_eq] at r87 ⊢
      refine V_ireturn (pc := 88) dX7_type_88 rfl rfl (fun hR => ?_)
      have hM2 : MR_ (ms_ (ms_ a 2 q b) 0 1 ((q : Int) + 1)) (ms_ (ms_ σ 43 (60 * 1 + q) b) 44 1 ((q : Int) + 1)) := by
        refine h.txt hA2 (fun q h1 h2 => by rw [ms_rw h2, ms_rw h1]) (fun k hk => by rw [ms_rw (by omega), ms_rw (by omega)]) ⟨?_, ?_, ?_⟩
        · refine ⟨?_, fun i hi => ?_⟩
          · rw [show ((ms_ (ms_ σ 43 (60 * 1 + q) b) 44 1 ((q : Int) + 1)) 44 0) = σ 44 0 from by unfold ms_; rw [if_neg (by omega), if_neg (by omega)], show ((ms_ (ms_ a 2 q b) 0 1 ((q : Int) + 1)) 0 0) = a 0 0 from by unfold ms_; rw [if_neg (by omega), if_neg (by omega)]]; exact hT0.1
          · rw [show ((ms_ (ms_ σ 43 (60 * 1 + q) b) 44 1 ((q : Int) + 1)) 43 (60 * 0 + i)) = σ 43 (60 * 0 + i) from by unfold ms_; rw [if_neg (by omega), if_neg (by omega)], show ((ms_ (ms_ a 2 q b) 0 1 ((q : Int) + 1)) 1 i) = a 1 i from by unfold ms_; rw [if_neg (by omega), if_neg (by omega)]]; exact hT0.2 i hi
        · refine ⟨by rw [ms_eq, ms_eq], fun i hi => ?_⟩
          by_cases c : i = q
          · rw [show ((ms_ (ms_ σ 43 (60 * 1 + q) b) 44 1 ((q : Int) + 1)) 43 (60 * 1 + i)) = b from by unfold ms_; rw [if_neg (by omega), if_pos (by omega)], show ((ms_ (ms_ a 2 q b) 0 1 ((q : Int) + 1)) 2 i) = b from by unfold ms_; rw [if_neg (by omega), if_pos (by omega)]]
          · rw [show ((ms_ (ms_ σ 43 (60 * 1 + q) b) 44 1 ((q : Int) + 1)) 43 (60 * 1 + i)) = σ 43 (60 * 1 + i) from by unfold ms_; rw [if_neg (by omega), if_neg (by omega)], show ((ms_ (ms_ a 2 q b) 0 1 ((q : Int) + 1)) 2 i) = a 2 i from by unfold ms_; rw [if_neg (by omega), if_neg (by omega)]]; exact hT1.2 i hi
        · refine ⟨?_, fun i hi => ?_⟩
          · rw [show ((ms_ (ms_ σ 43 (60 * 1 + q) b) 44 1 ((q : Int) + 1)) 44 2) = σ 44 2 from by unfold ms_; rw [if_neg (by omega), if_neg (by omega)], show ((ms_ (ms_ a 2 q b) 0 1 ((q : Int) + 1)) 0 2) = a 0 2 from by unfold ms_; rw [if_neg (by omega), if_neg (by omega)]]; exact hT2.1
          · rw [show ((ms_ (ms_ σ 43 (60 * 1 + q) b) 44 1 ((q : Int) + 1)) 43 (60 * 2 + i)) = σ 43 (60 * 2 + i) from by unfold ms_; rw [if_neg (by omega), if_neg (by omega)], show ((ms_ (ms_ a 2 q b) 0 1 ((q : Int) + 1)) 3 i) = a 3 i from by unfold ms_; rw [if_neg (by omega), if_neg (by omega)]]; exact hT2.2 i hi
      have h2 := hK _ (by rw [e]; exact hM2) ((Gm_.rf.ms (by decide)).ms (by decide))
      rw [e] at h2
      exact h2
    · skip
      have e : nx_type a 1 b = (-4, a) := by unfold nx_type; rw [if_neg (by omega), show ((1 : Int)).toNat = 1 from rfl, if_pos (show cap_ 1 ≤ a 0 1 by show (39 : Int) ≤ _; omega)]
      refine V_bipush (pc := 52) dX7_type_52 (by decide) ?_
      refine V_ireturn (pc := 54) dX7_type_54 rfl rfl (fun hR => ?_)
      have h2 := hK σ (by rw [e]; exact h) Gm_.rf
      rw [e] at h2
      exact h2
  · skip
    rw [b2_0] at h16
    have e : nx_type a 1 b = (-2, a) := by unfold nx_type; rw [if_pos (by omega)]
    refine V_bipush (pc := 19) dX7_type_19 (by decide) ?_
    refine V_ireturn (pc := 21) dX7_type_21 rfl rfl (fun hR => ?_)
    have h2 := hK σ (by rw [e]; exact h) Gm_.rf
    rw [e] at h2
    exact h2
theorem ct_X7_type_2 {b : Int} (hb : Rg_ b) (h : MR_ a σ) (hA2 : AW_ (nx_type a 2 b).2) (hK : ∀ τ, MR_ (nx_type a 2 b).2 τ → Gm_ σ τ → post (some (vi_ (nx_type a 2 b).1)) τ) : V_ l D mX7_type (CM_ D mX7_type post) 0 [some (vr_ 38), some (vi_ 2), some (vi_ b)] [] σ := by
  have hA := h.1
  obtain ⟨hT0, hT1, hT2⟩ := h.2.1
  have h0 := hA.1
  obtain ⟨q, hq⟩ := i_nat (show 0 ≤ a 0 2 by omega)
  have et : σ 44 2 = (q : Int) := hT2.1.trans hq
  refine V_iload_n (pc := 0) dX7_type_0 rfl rfl ?_
  refine V_callS (pc := 1) (as := [_]) (rest := []) dX7_type_1 ⟨kX7_89, sX7_isText, by decide, by decide⟩ rfl rfl (Nat.le_of_ble_eq_true rfl) (Nat.le_of_ble_eq_true rfl) ?_
  refine ct_X7_isText (by decide) ?_
  show V_ _ _ _ _ _ _ [_] _
  refine V_if_eq (tgt := 19) (pc := 4) dX7_type_4 (by decide) b2_rg (fun h4 => by rw [b2_0] at h4; omega) (fun h4 => ?_)
  refine V_iload_n (pc := 7) dX7_type_7 rfl rfl ?_
  refine V_i2l (pc := 8) dX7_type_8 (by first | assumption | exact b2_rg | decide | (constructor <;> omega)) ?_
  refine V_lconst (z := 0) (pc := 9) dX7_type_9 rfl ?_
  refine V_ldc2 (v := (255)) (z := 255) (pc := 10) dX7_type_10 (tb_in 869 (by decide +kernel) rfl) (by decide +kernel) ?_
  refine V_callS (pc := 13) (as := [_, _, _]) (rest := []) dX7_type_13 ⟨kX7_61, sX7_in, by decide, by decide⟩ rfl rfl (Nat.le_of_ble_eq_true rfl) (Nat.le_of_ble_eq_true rfl) ?_
  refine ct_X7_in (by constructor <;> omega) (by decide) (by decide) ?_
  show V_ _ _ _ _ _ _ [_] _
  refine V_if_ne (tgt := 22) (pc := 16) dX7_type_16 (by decide) b2_rg (fun h16 => ?_) (fun h16 => ?_)
  · skip
    rw [b2_n0] at h16
    refine V_aload_n (pc := 22) dX7_type_22 rfl rfl ?_
    refine V_getr (pc := 23) dX7_type_23 fX7_25 rfl gg_38 rfl ?_
    refine V_iload_n (pc := 26) dX7_type_26 rfl rfl ?_
    refine V_iald (pc := 27) dX7_type_27 gg_44 (by decide) (by decide) (fun r27 => ?_)
    rw [show σ 44 (2 : Int).toNat = (q : Int) from et] at r27 ⊢
    refine V_iload_n (pc := 28) dX7_type_28 rfl rfl ?_
    refine V_if_ne (tgt := 37) (pc := 29) dX7_type_29 (by decide) (by first | assumption | exact b2_rg | decide | (constructor <;> omega)) (fun h29 => ?_) (fun h29 => by exact absurd h29 (by decide))
    refine V_iload_n (pc := 37) dX7_type_37 rfl rfl ?_
    refine V_iconst (pc := 38) dX7_type_38 ?_
    refine V_icmp_ne (tgt := 47) (pc := 39) dX7_type_39 (by decide) (by first | assumption | exact b2_rg | decide | (constructor <;> omega)) (by first | assumption | exact b2_rg | decide | (constructor <;> omega)) (fun h39 => ?_) (fun h39 => by exact absurd h39 (by decide))
    refine V_bipush (pc := 47) dX7_type_47 (by decide) ?_
    refine V_icmp_ne (tgt := 55) (pc := 49) dX7_type_49 (by decide) (by first | assumption | exact b2_rg | decide | (constructor <;> omega)) (by first | assumption | exact b2_rg | decide | (constructor <;> omega)) (fun h49 => ?_) (fun h49 => ?_)
    · skip
      have e : nx_type a 2 b = ((q : Int) + 1, ms_ (ms_ a 3 q b) 0 2 ((q : Int) + 1)) := by
        unfold nx_type
        rw [if_neg (by omega), show ((2 : Int)).toNat = 2 from rfl, if_neg (show ¬ cap_ 2 ≤ a 0 2 by show ¬ (59 : Int) ≤ _; omega), hq]
        rfl
      rw [e] at hA2
      refine V_aload_n (pc := 55) dX7_type_55 rfl rfl ?_
      refine V_getr (pc := 56) dX7_type_56 fX7_22 rfl gg_38 rfl ?_
      refine V_bipush (pc := 59) dX7_type_59 (by decide) ?_
      refine V_iload_n (pc := 61) dX7_type_61 rfl rfl ?_
      refine V_imul (pc := 62) dX7_type_62 ?_
      refine V_aload_n (pc := 63) dX7_type_63 rfl rfl ?_
      refine V_getr (pc := 64) dX7_type_64 fX7_25 rfl gg_38 rfl ?_
      refine V_iload_n (pc := 67) dX7_type_67 rfl rfl ?_
      refine V_iald (pc := 68) dX7_type_68 gg_44 (by decide) (by decide) (fun r68 => ?_)
      rw [show σ 44 (2 : Int).toNat = (q : Int) from et] at r68 ⊢
      refine V_iadd (pc := 69) dX7_type_69 ?_
      refine V_iload_n (pc := 70) dX7_type_70 rfl rfl ?_
      refine V_iast (pc := 71) dX7_type_71 gg_43 (by have : ((180 : Nat) : Int) = 180 := rfl; omega) (by decide) (by first | assumption | exact b2_rg | decide | (constructor <;> omega)) ?_
      rw [show (60 * 2 + (q : Int)).toNat = 60 * 2 + q by omega]
      refine V_aload_n (pc := 72) dX7_type_72 rfl rfl ?_
      refine V_getr (pc := 73) dX7_type_73 fX7_25 rfl gg_38 rfl ?_
      refine V_iload_n (pc := 76) dX7_type_76 rfl rfl ?_
      refine V_dup2 (pc := 77) dX7_type_77 rfl rfl ?_
      refine V_iald (pc := 78) dX7_type_78 gg_44 (by decide) (by decide) (fun r78 => ?_)
      rw [show ms_ σ 43 (60 * 2 + q) b 44 (2 : Int).toNat = (q : Int) from by rw [ms_nk (by decide)]; exact et] at r78 ⊢
      refine V_iconst (pc := 79) dX7_type_79 ?_
      refine V_iadd (pc := 80) dX7_type_80 ?_
      refine V_iast (pc := 81) dX7_type_81 gg_44 (by decide) (by decide) (by first | assumption | exact b2_rg | decide | (constructor <;> omega)) ?_
      rw [show (2 : Int).toNat = 2 from rfl]
      refine V_aload_n (pc := 82) dX7_type_82 rfl rfl ?_
      refine V_getr (pc := 83) dX7_type_83 fX7_25 rfl gg_38 rfl ?_
      refine V_iload_n (pc := 86) dX7_type_86 rfl rfl ?_
      refine V_iald (pc := 87) dX7_type_87 gg_44 (by decide) (by decide) (fun r87 => ?_)
      rw [show (ms_ (ms_ σ 43 (60 * 2 + q) b) 44 2 ((q : Int) + 1)) 44 (2 : Int).toNat = (q : Int) + 1 from ms_eq] at r87 ⊢
      refine V_ireturn (pc := 88) dX7_type_88 rfl rfl (fun hR => ?_)
      have hM2 : MR_ (ms_ (ms_ a 3 q b) 0 2 ((q : Int) + 1)) (ms_ (ms_ σ 43 (60 * 2 + q) b) 44 2 ((q : Int) + 1)) := by
        refine h.txt hA2 (fun q h1 h2 => by rw [ms_rw h2, ms_rw h1]) (fun k hk => by rw [ms_rw (by omega), ms_rw (by omega)]) ⟨?_, ?_, ?_⟩
        · refine ⟨?_, fun i hi => ?_⟩
          · rw [show ((ms_ (ms_ σ 43 (60 * 2 + q) b) 44 2 ((q : Int) + 1)) 44 0) = σ 44 0 from by unfold ms_; rw [if_neg (by omega), if_neg (by omega)], show ((ms_ (ms_ a 3 q b) 0 2 ((q : Int) + 1)) 0 0) = a 0 0 from by unfold ms_; rw [if_neg (by omega), if_neg (by omega)]]; exact hT0.1
          · rw [show ((ms_ (ms_ σ 43 (60 * 2 + q) b) 44 2 ((q : Int) + 1)) 43 (60 * 0 + i)) = σ 43 (60 * 0 + i) from by unfold ms_; rw [if_neg (by omega), if_neg (by omega)], show ((ms_ (ms_ a 3 q b) 0 2 ((q : Int) + 1)) 1 i) = a 1 i from by unfold ms_; rw [if_neg (by omega), if_neg (by omega)]]; exact hT0.2 i hi
        · refine ⟨?_, fun i hi => ?_⟩
          · rw [show ((ms_ (ms_ σ 43 (60 * 2 + q) b) 44 2 ((q : Int) + 1)) 44 1) = σ 44 1 from by unfold ms_; rw [if_neg (by omega), if_neg (by omega)], show ((ms_ (ms_ a 3 q b) 0 2 ((q : Int) + 1)) 0 1) = a 0 1 from by unfold ms_; rw [if_neg (by omega), if_neg (by omega)]]; exact hT1.1
          · rw [show ((ms_ (ms_ σ 43 (60 * 2 + q) b) 44 2 ((q : Int) + 1)) 43 (60 * 1 + i)) = σ 43 (60 * 1 + i) from by unfold ms_; rw [if_neg (by omega), if_neg (by omega)], show ((ms_ (ms_ a 3 q b) 0 2 ((q : Int) + 1)) 2 i) = a 2 i from by unfold ms_; rw [if_neg (by omega), if_neg (by omega)]]; exact hT1.2 i hi
        · refine ⟨by rw [ms_eq, ms_eq], fun i hi => ?_⟩
          by_cases c : i = q
          · rw [show ((ms_ (ms_ σ 43 (60 * 2 + q) b) 44 2 ((q : Int) + 1)) 43 (60 * 2 + i)) = b from by unfold ms_; rw [if_neg (by omega), if_pos (by omega)], show ((ms_ (ms_ a 3 q b) 0 2 ((q : Int) + 1)) 3 i) = b from by unfold ms_; rw [if_neg (by omega), if_pos (by omega)]]
          · rw [show ((ms_ (ms_ σ 43 (60 * 2 + q) b) 44 2 ((q : Int) + 1)) 43 (60 * 2 + i)) = σ 43 (60 * 2 + i) from by unfold ms_; rw [if_neg (by omega), if_neg (by omega)], show ((ms_ (ms_ a 3 q b) 0 2 ((q : Int) + 1)) 3 i) = a 3 i from by unfold ms_; rw [if_neg (by omega), if_neg (by omega)]]; exact hT2.2 i hi
      have h2 := hK _ (by rw [e]; exact hM2) ((Gm_.rf.ms (by decide)).ms (by decide))
      rw [e] at h2
      exact h2
    · skip
      have e : nx_type a 2 b = (-4, a) := by unfold nx_type; rw [if_neg (by omega), show ((2 : Int)).toNat = 2 from rfl, if_pos (show cap_ 2 ≤ a 0 2 by show (59 : Int) ≤ _; omega)]
      refine V_bipush (pc := 52) dX7_type_52 (by decide) ?_
      refine V_ireturn (pc := 54) dX7_type_54 rfl rfl (fun hR => ?_)
      have h2 := hK σ (by rw [e]; exact h) Gm_.rf
      rw [e] at h2
      exact h2
  · skip
    rw [b2_0] at h16
    have e : nx_type a 2 b = (-2, a) := by unfold nx_type; rw [if_pos (by omega)]
    refine V_bipush (pc := 19) dX7_type_19 (by decide) ?_
    refine V_ireturn (pc := 21) dX7_type_21 rfl rfl (fun hR => ?_)
    have h2 := hK σ (by rw [e]; exact h) Gm_.rf
    rw [e] at h2
    exact h2
theorem ct_X7_type {t b : Int} (ht : Rg_ t) (hb : Rg_ b) (h : MR_ a σ) (hA2 : AW_ (nx_type a t b).2) (hK : ∀ τ, MR_ (nx_type a t b).2 τ → Gm_ σ τ → post (some (vi_ (nx_type a t b).1)) τ) : V_ l D mX7_type (CM_ D mX7_type post) 0 [some (vr_ 38), some (vi_ t), some (vi_ b)] [] σ := by
  by_cases c0 : t = 0
  · subst c0; exact ct_X7_type_0 hb h hA2 hK
  by_cases c1 : t = 1
  · subst c1; exact ct_X7_type_1 hb h hA2 hK
  by_cases c2 : t = 2
  · subst c2; exact ct_X7_type_2 hb h hA2 hK
  have e : nx_type a t b = (-2, a) := by unfold nx_type; rw [if_pos (by omega)]
  refine V_iload_n (pc := 0) dX7_type_0 rfl rfl ?_
  refine V_callS (pc := 1) (as := [_]) (rest := []) dX7_type_1 ⟨kX7_89, sX7_isText, by decide, by decide⟩ rfl rfl (Nat.le_of_ble_eq_true rfl) (Nat.le_of_ble_eq_true rfl) ?_
  refine ct_X7_isText ht ?_
  show V_ _ _ _ _ _ _ [_] _
  refine V_if_eq (tgt := 19) (pc := 4) dX7_type_4 (by decide) b2_rg (fun h4 => ?_) (fun h4 => by rw [b2_n0] at h4; omega)
  refine V_bipush (pc := 19) dX7_type_19 (by decide) ?_
  refine V_ireturn (pc := 21) dX7_type_21 rfl rfl (fun hR => ?_)
  have h2 := hK σ (by rw [e]; exact h) Gm_.rf
  rw [e] at h2
  exact h2
theorem ct_X7_wipe_0 (h : MR_ a σ) (hA2 : AW_ (nx_wipe a 0).2) (hK : ∀ τ, MR_ (nx_wipe a 0).2 τ → Gm_ σ τ → post (some (vi_ (nx_wipe a 0).1)) τ) : V_ l D mX7_wipe (CM_ D mX7_wipe post) 0 [some (vr_ 38), some (vi_ 0), none] [] σ := by
  have hA := h.1
  obtain ⟨hT0, hT1, hT2⟩ := h.2.1
  have h0 := hA.1
  obtain ⟨q, hq⟩ := i_nat (show 0 ≤ a 0 0 by omega)
  have et : σ 44 0 = (q : Int) := hT0.1.trans hq
  refine V_iload_n (pc := 0) dX7_wipe_0 rfl rfl ?_
  refine V_callS (pc := 1) (as := [_]) (rest := []) dX7_wipe_1 ⟨kX7_89, sX7_isText, by decide, by decide⟩ rfl rfl (Nat.le_of_ble_eq_true rfl) (Nat.le_of_ble_eq_true rfl) ?_
  refine ct_X7_isText (by decide) ?_
  show V_ _ _ _ _ _ _ [_] _
  refine V_if_ne (tgt := 10) (pc := 4) dX7_wipe_4 (by decide) b2_rg (fun h4 => ?_) (fun h4 => by rw [b2_0] at h4; omega)
  refine V_aload_n (pc := 10) dX7_wipe_10 rfl rfl ?_
  refine V_getr (pc := 11) dX7_wipe_11 fX7_25 rfl gg_38 rfl ?_
  refine V_iload_n (pc := 14) dX7_wipe_14 rfl rfl ?_
  refine V_iald (pc := 15) dX7_wipe_15 gg_44 (by decide) (by decide) (fun r15 => ?_)
  rw [show σ 44 (0 : Int).toNat = (q : Int) from et] at r15 ⊢
  refine V_istore_n (pc := 16) dX7_wipe_16 rfl (by decide) rfl ?_
  show V_ _ _ _ _ _ [_, _, _] _ _
  refine V_aload_n (pc := 17) dX7_wipe_17 rfl rfl ?_
  refine V_getr (pc := 18) dX7_wipe_18 fX7_25 rfl gg_38 rfl ?_
  refine V_iload_n (pc := 21) dX7_wipe_21 rfl rfl ?_
  refine V_iconst (pc := 22) dX7_wipe_22 ?_
  refine V_iast (pc := 23) dX7_wipe_23 gg_44 (by decide) (by decide) (by first | assumption | exact b2_rg | decide | (constructor <;> omega)) ?_
  rw [show (0 : Int).toNat = 0 from rfl]
  refine V_iload_n (pc := 24) dX7_wipe_24 rfl rfl ?_
  refine V_ireturn (pc := 25) dX7_wipe_25 rfl rfl (fun hR => ?_)
  have hM2 : MR_ (ms_ a 0 0 0) (ms_ σ 44 0 0) := by
    refine h.txt hA2 (fun q h1 h2 => ms_rw h2) (fun k hk => ms_rw (by omega)) ⟨?_, ?_, ?_⟩
    · refine ⟨by rw [ms_eq, ms_eq], fun i hi => ?_⟩
      rw [show ((ms_ σ 44 0 0) 43 (60 * 0 + i)) = σ 43 (60 * 0 + i) from by unfold ms_; rw [if_neg (by omega)], show ((ms_ a 0 0 0) 1 i) = a 1 i from by unfold ms_; rw [if_neg (by omega)]]; exact hT0.2 i hi
    · refine ⟨?_, fun i hi => ?_⟩
      · rw [show ((ms_ σ 44 0 0) 44 1) = σ 44 1 from by unfold ms_; rw [if_neg (by omega)], show ((ms_ a 0 0 0) 0 1) = a 0 1 from by unfold ms_; rw [if_neg (by omega)]]; exact hT1.1
      · rw [show ((ms_ σ 44 0 0) 43 (60 * 1 + i)) = σ 43 (60 * 1 + i) from by unfold ms_; rw [if_neg (by omega)], show ((ms_ a 0 0 0) 2 i) = a 2 i from by unfold ms_; rw [if_neg (by omega)]]; exact hT1.2 i hi
    · refine ⟨?_, fun i hi => ?_⟩
      · rw [show ((ms_ σ 44 0 0) 44 2) = σ 44 2 from by unfold ms_; rw [if_neg (by omega)], show ((ms_ a 0 0 0) 0 2) = a 0 2 from by unfold ms_; rw [if_neg (by omega)]]; exact hT2.1
      · rw [show ((ms_ σ 44 0 0) 43 (60 * 2 + i)) = σ 43 (60 * 2 + i) from by unfold ms_; rw [if_neg (by omega)], show ((ms_ a 0 0 0) 3 i) = a 3 i from by unfold ms_; rw [if_neg (by omega)]]; exact hT2.2 i hi
  have e : nx_wipe a 0 = ((q : Int), ms_ a 0 0 0) := by unfold nx_wipe; rw [if_neg (by omega), show ((0 : Int)).toNat = 0 from rfl, hq]
  have h2 := hK _ (by rw [e]; exact hM2) (Gm_.rf.ms (by decide))
  rw [e] at h2
  exact h2
theorem ct_X7_wipe_1 (h : MR_ a σ) (hA2 : AW_ (nx_wipe a 1).2) (hK : ∀ τ, MR_ (nx_wipe a 1).2 τ → Gm_ σ τ → post (some (vi_ (nx_wipe a 1).1)) τ) : V_ l D mX7_wipe (CM_ D mX7_wipe post) 0 [some (vr_ 38), some (vi_ 1), none] [] σ := by
  have hA := h.1
  obtain ⟨hT0, hT1, hT2⟩ := h.2.1
  have h0 := hA.1
  obtain ⟨q, hq⟩ := i_nat (show 0 ≤ a 0 1 by omega)
  have et : σ 44 1 = (q : Int) := hT1.1.trans hq
  refine V_iload_n (pc := 0) dX7_wipe_0 rfl rfl ?_
  refine V_callS (pc := 1) (as := [_]) (rest := []) dX7_wipe_1 ⟨kX7_89, sX7_isText, by decide, by decide⟩ rfl rfl (Nat.le_of_ble_eq_true rfl) (Nat.le_of_ble_eq_true rfl) ?_
  refine ct_X7_isText (by decide) ?_
  show V_ _ _ _ _ _ _ [_] _
  refine V_if_ne (tgt := 10) (pc := 4) dX7_wipe_4 (by decide) b2_rg (fun h4 => ?_) (fun h4 => by rw [b2_0] at h4; omega)
  refine V_aload_n (pc := 10) dX7_wipe_10 rfl rfl ?_
  refine V_getr (pc := 11) dX7_wipe_11 fX7_25 rfl gg_38 rfl ?_
  refine V_iload_n (pc := 14) dX7_wipe_14 rfl rfl ?_
  refine V_iald (pc := 15) dX7_wipe_15 gg_44 (by decide) (by decide) (fun r15 => ?_)
  rw [show σ 44 (1 : Int).toNat = (q : Int) from et] at r15 ⊢
  refine V_istore_n (pc := 16) dX7_wipe_16 rfl (by decide) rfl ?_
  show V_ _ _ _ _ _ [_, _, _] _ _
  refine V_aload_n (pc := 17) dX7_wipe_17 rfl rfl ?_
  refine V_getr (pc := 18) dX7_wipe_18 fX7_25 rfl gg_38 rfl ?_
  refine V_iload_n (pc := 21) dX7_wipe_21 rfl rfl ?_
  refine V_iconst (pc := 22) dX7_wipe_22 ?_
  refine V_iast (pc := 23) dX7_wipe_23 gg_44 (by decide) (by decide) (by first | assumption | exact b2_rg | decide | (constructor <;> omega)) ?_
  rw [show (1 : Int).toNat = 1 from rfl]
  refine V_iload_n (pc := 24) dX7_wipe_24 rfl rfl ?_
  refine V_ireturn (pc := 25) dX7_wipe_25 rfl rfl (fun hR => ?_)
  have hM2 : MR_ (ms_ a 0 1 0) (ms_ σ 44 1 0) := by
    refine h.txt hA2 (fun q h1 h2 => ms_rw h2) (fun k hk => ms_rw (by omega)) ⟨?_, ?_, ?_⟩
    · refine ⟨?_, fun i hi => ?_⟩
      · rw [show ((ms_ σ 44 1 0) 44 0) = σ 44 0 from by unfold ms_; rw [if_neg (by omega)], show ((ms_ a 0 1 0) 0 0) = a 0 0 from by unfold ms_; rw [if_neg (by omega)]]; exact hT0.1
      · rw [show ((ms_ σ 44 1 0) 43 (60 * 0 + i)) = σ 43 (60 * 0 + i) from by unfold ms_; rw [if_neg (by omega)], show ((ms_ a 0 1 0) 1 i) = a 1 i from by unfold ms_; rw [if_neg (by omega)]]; exact hT0.2 i hi
    · refine ⟨by rw [ms_eq, ms_eq], fun i hi => ?_⟩
      rw [show ((ms_ σ 44 1 0) 43 (60 * 1 + i)) = σ 43 (60 * 1 + i) from by unfold ms_; rw [if_neg (by omega)], show ((ms_ a 0 1 0) 2 i) = a 2 i from by unfold ms_; rw [if_neg (by omega)]]; exact hT1.2 i hi
    · refine ⟨?_, fun i hi => ?_⟩
      · rw [show ((ms_ σ 44 1 0) 44 2) = σ 44 2 from by unfold ms_; rw [if_neg (by omega)], show ((ms_ a 0 1 0) 0 2) = a 0 2 from by unfold ms_; rw [if_neg (by omega)]]; exact hT2.1
      · rw [show ((ms_ σ 44 1 0) 43 (60 * 2 + i)) = σ 43 (60 * 2 + i) from by unfold ms_; rw [if_neg (by omega)], show ((ms_ a 0 1 0) 3 i) = a 3 i from by unfold ms_; rw [if_neg (by omega)]]; exact hT2.2 i hi
  have e : nx_wipe a 1 = ((q : Int), ms_ a 0 1 0) := by unfold nx_wipe; rw [if_neg (by omega), show ((1 : Int)).toNat = 1 from rfl, hq]
  have h2 := hK _ (by rw [e]; exact hM2) (Gm_.rf.ms (by decide))
  rw [e] at h2
  exact h2
theorem ct_X7_wipe_2 (h : MR_ a σ) (hA2 : AW_ (nx_wipe a 2).2) (hK : ∀ τ, MR_ (nx_wipe a 2).2 τ → Gm_ σ τ → post (some (vi_ (nx_wipe a 2).1)) τ) : V_ l D mX7_wipe (CM_ D mX7_wipe post) 0 [some (vr_ 38), some (vi_ 2), none] [] σ := by
  have hA := h.1
  obtain ⟨hT0, hT1, hT2⟩ := h.2.1
  have h0 := hA.1
  obtain ⟨q, hq⟩ := i_nat (show 0 ≤ a 0 2 by omega)
  have et : σ 44 2 = (q : Int) := hT2.1.trans hq
  refine V_iload_n (pc := 0) dX7_wipe_0 rfl rfl ?_
  refine V_callS (pc := 1) (as := [_]) (rest := []) dX7_wipe_1 ⟨kX7_89, sX7_isText, by decide, by decide⟩ rfl rfl (Nat.le_of_ble_eq_true rfl) (Nat.le_of_ble_eq_true rfl) ?_
  refine ct_X7_isText (by decide) ?_
  show V_ _ _ _ _ _ _ [_] _
  refine V_if_ne (tgt := 10) (pc := 4) dX7_wipe_4 (by decide) b2_rg (fun h4 => ?_) (fun h4 => by rw [b2_0] at h4; omega)
  refine V_aload_n (pc := 10) dX7_wipe_10 rfl rfl ?_
  refine V_getr (pc := 11) dX7_wipe_11 fX7_25 rfl gg_38 rfl ?_
  refine V_iload_n (pc := 14) dX7_wipe_14 rfl rfl ?_
  refine V_iald (pc := 15) dX7_wipe_15 gg_44 (by decide) (by decide) (fun r15 => ?_)
  rw [show σ 44 (2 : Int).toNat = (q : Int) from et] at r15 ⊢
  refine V_istore_n (pc := 16) dX7_wipe_16 rfl (by decide) rfl ?_
  show V_ _ _ _ _ _ [_, _, _] _ _
  refine V_aload_n (pc := 17) dX7_wipe_17 rfl rfl ?_
  refine V_getr (pc := 18) dX7_wipe_18 fX7_25 rfl gg_38 rfl ?_
  refine V_iload_n (pc := 21) dX7_wipe_21 rfl rfl ?_
  refine V_iconst (pc := 22) dX7_wipe_22 ?_
  refine V_iast (pc := 23) dX7_wipe_23 gg_44 (by decide) (by decide) (by first | assumption | exact b2_rg | decide | (constructor <;> omega)) ?_
  rw [show (2 : Int).toNat = 2 from rfl]
  refine V_iload_n (pc := 24) dX7_wipe_24 rfl rfl ?_
  refine V_ireturn (pc := 25) dX7_wipe_25 rfl rfl (fun hR => ?_)
  have hM2 : MR_ (ms_ a 0 2 0) (ms_ σ 44 2 0) := by
    refine h.txt hA2 (fun q h1 h2 => ms_rw h2) (fun k hk => ms_rw (by omega)) ⟨?_, ?_, ?_⟩
    · refine ⟨?_, fun i hi => ?_⟩
      · rw [show ((ms_ σ 44 2 0) 44 0) = σ 44 0 from by unfold ms_; rw [if_neg (by omega)], show ((ms_ a 0 2 0) 0 0) = a 0 0 from by unfold ms_; rw [if_neg (by omega)]]; exact hT0.1
      · rw [show ((ms_ σ 44 2 0) 43 (60 * 0 + i)) = σ 43 (60 * 0 + i) from by unfold ms_; rw [if_neg (by omega)], show ((ms_ a 0 2 0) 1 i) = a 1 i from by unfold ms_; rw [if_neg (by omega)]]; exact hT0.2 i hi
    · refine ⟨?_, fun i hi => ?_⟩
      · rw [show ((ms_ σ 44 2 0) 44 1) = σ 44 1 from by unfold ms_; rw [if_neg (by omega)], show ((ms_ a 0 2 0) 0 1) = a 0 1 from by unfold ms_; rw [if_neg (by omega)]]; exact hT1.1
      · rw [show ((ms_ σ 44 2 0) 43 (60 * 1 + i)) = σ 43 (60 * 1 + i) from by unfold ms_; rw [if_neg (by omega)], show ((ms_ a 0 2 0) 2 i) = a 2 i from by unfold ms_; rw [if_neg (by omega)]]; exact hT1.2 i hi
    · refine ⟨by rw [ms_eq, ms_eq], fun i hi => ?_⟩
      rw [show ((ms_ σ 44 2 0) 43 (60 * 2 + i)) = σ 43 (60 * 2 + i) from by unfold ms_; rw [if_neg (by omega)], show ((ms_ a 0 2 0) 3 i) = a 3 i from by unfold ms_; rw [if_neg (by omega)]]; exact hT2.2 i hi
  have e : nx_wipe a 2 = ((q : Int), ms_ a 0 2 0) := by unfold nx_wipe; rw [if_neg (by omega), show ((2 : Int)).toNat = 2 from rfl, hq]
  have h2 := hK _ (by rw [e]; exact hM2) (Gm_.rf.ms (by decide))
  rw [e] at h2
  exact h2
theorem ct_X7_wipe {t : Int} (ht : Rg_ t) (h : MR_ a σ) (hA2 : AW_ (nx_wipe a t).2) (hK : ∀ τ, MR_ (nx_wipe a t).2 τ → Gm_ σ τ → post (some (vi_ (nx_wipe a t).1)) τ) : V_ l D mX7_wipe (CM_ D mX7_wipe post) 0 [some (vr_ 38), some (vi_ t), none] [] σ := by
  by_cases c0 : t = 0
  · subst c0; exact ct_X7_wipe_0 h hA2 hK
  by_cases c1 : t = 1
  · subst c1; exact ct_X7_wipe_1 h hA2 hK
  by_cases c2 : t = 2
  · subst c2; exact ct_X7_wipe_2 h hA2 hK
  have e : nx_wipe a t = (-2, a) := by unfold nx_wipe; rw [if_pos (by omega)]
  refine V_iload_n (pc := 0) dX7_wipe_0 rfl rfl ?_
  refine V_callS (pc := 1) (as := [_]) (rest := []) dX7_wipe_1 ⟨kX7_89, sX7_isText, by decide, by decide⟩ rfl rfl (Nat.le_of_ble_eq_true rfl) (Nat.le_of_ble_eq_true rfl) ?_
  refine ct_X7_isText ht ?_
  show V_ _ _ _ _ _ _ [_] _
  refine V_if_ne (tgt := 10) (pc := 4) dX7_wipe_4 (by decide) b2_rg (fun h4 => by rw [b2_n0] at h4; omega) (fun h4 => ?_)
  refine V_bipush (pc := 7) dX7_wipe_7 (by decide) ?_
  refine V_ireturn (pc := 9) dX7_wipe_9 rfl rfl (fun hR => ?_)
  have h2 := hK σ (by rw [e]; exact h) Gm_.rf
  rw [e] at h2
  exact h2
theorem ct_X7_undo_0 (h : MR_ a σ) (hA2 : AW_ (nx_undo a 0).2) (hK : ∀ τ, MR_ (nx_undo a 0).2 τ → Gm_ σ τ → post (some (vi_ (nx_undo a 0).1)) τ) : V_ l D mX7_undo (CM_ D mX7_undo post) 0 [some (vr_ 38), some (vi_ 0)] [] σ := by
  have hA := h.1
  obtain ⟨hT0, hT1, hT2⟩ := h.2.1
  have h0 := hA.1
  obtain ⟨q, hq⟩ := i_nat (show 0 ≤ a 0 0 by omega)
  have et : σ 44 0 = (q : Int) := hT0.1.trans hq
  refine V_iload_n (pc := 0) dX7_undo_0 rfl rfl ?_
  refine V_callS (pc := 1) (as := [_]) (rest := []) dX7_undo_1 ⟨kX7_89, sX7_isText, by decide, by decide⟩ rfl rfl (Nat.le_of_ble_eq_true rfl) (Nat.le_of_ble_eq_true rfl) ?_
  refine ct_X7_isText (by decide) ?_
  show V_ _ _ _ _ _ _ [_] _
  refine V_if_ne (tgt := 10) (pc := 4) dX7_undo_4 (by decide) b2_rg (fun h4 => ?_) (fun h4 => by rw [b2_0] at h4; omega)
  refine V_aload_n (pc := 10) dX7_undo_10 rfl rfl ?_
  refine V_getr (pc := 11) dX7_undo_11 fX7_25 rfl gg_38 rfl ?_
  refine V_iload_n (pc := 14) dX7_undo_14 rfl rfl ?_
  refine V_iald (pc := 15) dX7_undo_15 gg_44 (by decide) (by decide) (fun r15 => ?_)
  rw [show σ 44 (0 : Int).toNat = (q : Int) from et] at r15 ⊢
  refine V_if_ne (tgt := 22) (pc := 16) dX7_undo_16 (by decide) (by first | assumption | exact b2_rg | decide | (constructor <;> omega)) (fun h16 => ?_) (fun h16 => ?_)
  · skip
    have e : nx_undo a 0 = ((q : Int) - 1, ms_ a 0 0 ((q : Int) - 1)) := by
      unfold nx_undo
      rw [if_neg (by omega), show ((0 : Int)).toNat = 0 from rfl, if_neg (show ¬ a 0 0 = 0 by omega), hq]
    rw [e] at hA2
    refine V_aload_n (pc := 22) dX7_undo_22 rfl rfl ?_
    refine V_getr (pc := 23) dX7_undo_23 fX7_25 rfl gg_38 rfl ?_
    refine V_iload_n (pc := 26) dX7_undo_26 rfl rfl ?_
    refine V_dup2 (pc := 27) dX7_undo_27 rfl rfl ?_
    refine V_iald (pc := 28) dX7_undo_28 gg_44 (by decide) (by decide) (fun r28 => ?_)
    rw [show σ 44 (0 : Int).toNat = (q : Int) from et] at r28 ⊢
    refine V_iconst (pc := 29) dX7_undo_29 ?_
    refine V_isub (pc := 30) dX7_undo_30 ?_
    refine V_iast (pc := 31) dX7_undo_31 gg_44 (by decide) (by decide) (by first | assumption | exact b2_rg | decide | (constructor <;> omega)) ?_
    rw [show (0 : Int).toNat = 0 from rfl]
    refine V_aload_n (pc := 32) dX7_undo_32 rfl rfl ?_
    refine V_getr (pc := 33) dX7_undo_33 fX7_25 rfl gg_38 rfl ?_
    refine V_iload_n (pc := 36) dX7_undo_36 rfl rfl ?_
    refine V_iald (pc := 37) dX7_undo_37 gg_44 (by decide) (by decide) (fun r37 => ?_)
    rw [show (ms_ σ 44 0 ((q : Int) - 1)) 44 (0 : Int).toNat = (q : Int) - 1 from ms_eq] at r37 ⊢
    refine V_ireturn (pc := 38) dX7_undo_38 rfl rfl (fun hR => ?_)
    have hM2 : MR_ (ms_ a 0 0 ((q : Int) - 1)) (ms_ σ 44 0 ((q : Int) - 1)) := by
      refine h.txt hA2 (fun q h1 h2 => ms_rw h2) (fun k hk => ms_rw (by omega)) ⟨?_, ?_, ?_⟩
      · refine ⟨by rw [ms_eq, ms_eq], fun i hi => ?_⟩
        rw [show ((ms_ σ 44 0 ((q : Int) - 1)) 43 (60 * 0 + i)) = σ 43 (60 * 0 + i) from by unfold ms_; rw [if_neg (by omega)], show ((ms_ a 0 0 ((q : Int) - 1)) 1 i) = a 1 i from by unfold ms_; rw [if_neg (by omega)]]; exact hT0.2 i hi
      · refine ⟨?_, fun i hi => ?_⟩
        · rw [show ((ms_ σ 44 0 ((q : Int) - 1)) 44 1) = σ 44 1 from by unfold ms_; rw [if_neg (by omega)], show ((ms_ a 0 0 ((q : Int) - 1)) 0 1) = a 0 1 from by unfold ms_; rw [if_neg (by omega)]]; exact hT1.1
        · rw [show ((ms_ σ 44 0 ((q : Int) - 1)) 43 (60 * 1 + i)) = σ 43 (60 * 1 + i) from by unfold ms_; rw [if_neg (by omega)], show ((ms_ a 0 0 ((q : Int) - 1)) 2 i) = a 2 i from by unfold ms_; rw [if_neg (by omega)]]; exact hT1.2 i hi
      · refine ⟨?_, fun i hi => ?_⟩
        · rw [show ((ms_ σ 44 0 ((q : Int) - 1)) 44 2) = σ 44 2 from by unfold ms_; rw [if_neg (by omega)], show ((ms_ a 0 0 ((q : Int) - 1)) 0 2) = a 0 2 from by unfold ms_; rw [if_neg (by omega)]]; exact hT2.1
        · rw [show ((ms_ σ 44 0 ((q : Int) - 1)) 43 (60 * 2 + i)) = σ 43 (60 * 2 + i) from by unfold ms_; rw [if_neg (by omega)], show ((ms_ a 0 0 ((q : Int) - 1)) 3 i) = a 3 i from by unfold ms_; rw [if_neg (by omega)]]; exact hT2.2 i hi
    have h2 := hK _ (by rw [e]; exact hM2) (Gm_.rf.ms (by decide))
    rw [e] at h2
    exact h2
  · skip
    have e : nx_undo a 0 = (-3, a) := by unfold nx_undo; rw [if_neg (by omega), show ((0 : Int)).toNat = 0 from rfl, if_pos (show a 0 0 = 0 by omega)]
    refine V_bipush (pc := 19) dX7_undo_19 (by decide) ?_
    refine V_ireturn (pc := 21) dX7_undo_21 rfl rfl (fun hR => ?_)
    have h2 := hK σ (by rw [e]; exact h) Gm_.rf
    rw [e] at h2
    exact h2
theorem ct_X7_undo_1 (h : MR_ a σ) (hA2 : AW_ (nx_undo a 1).2) (hK : ∀ τ, MR_ (nx_undo a 1).2 τ → Gm_ σ τ → post (some (vi_ (nx_undo a 1).1)) τ) : V_ l D mX7_undo (CM_ D mX7_undo post) 0 [some (vr_ 38), some (vi_ 1)] [] σ := by
  have hA := h.1
  obtain ⟨hT0, hT1, hT2⟩ := h.2.1
  have h0 := hA.1
  obtain ⟨q, hq⟩ := i_nat (show 0 ≤ a 0 1 by omega)
  have et : σ 44 1 = (q : Int) := hT1.1.trans hq
  refine V_iload_n (pc := 0) dX7_undo_0 rfl rfl ?_
  refine V_callS (pc := 1) (as := [_]) (rest := []) dX7_undo_1 ⟨kX7_89, sX7_isText, by decide, by decide⟩ rfl rfl (Nat.le_of_ble_eq_true rfl) (Nat.le_of_ble_eq_true rfl) ?_
  refine ct_X7_isText (by decide) ?_
  show V_ _ _ _ _ _ _ [_] _
  refine V_if_ne (tgt := 10) (pc := 4) dX7_undo_4 (by decide) b2_rg (fun h4 => ?_) (fun h4 => by rw [b2_0] at h4; omega)
  refine V_aload_n (pc := 10) dX7_undo_10 rfl rfl ?_
  refine V_getr (pc := 11) dX7_undo_11 fX7_25 rfl gg_38 rfl ?_
  refine V_iload_n (pc := 14) dX7_undo_14 rfl rfl ?_
  refine V_iald (pc := 15) dX7_undo_15 gg_44 (by decide) (by decide) (fun r15 => ?_)
  rw [show σ 44 (1 : Int).toNat = (q : Int) from et] at r15 ⊢
  refine V_if_ne (tgt := 22) (pc := 16) dX7_undo_16 (by decide) (by first | assumption | exact b2_rg | decide | (constructor <;> omega)) (fun h16 => ?_) (fun h16 => ?_)
  · skip
    have e : nx_undo a 1 = ((q : Int) - 1, ms_ a 0 1 ((q : Int) - 1)) := by
      unfold nx_undo
      rw [if_neg (by omega), show ((1 : Int)).toNat = 1 from rfl, if_neg (show ¬ a 0 1 = 0 by omega), hq]
    rw [e] at hA2
    refine V_aload_n (pc := 22) dX7_undo_22 rfl rfl ?_
    refine V_getr (pc := 23) dX7_undo_23 fX7_25 rfl gg_38 rfl ?_
    refine V_iload_n (pc := 26) dX7_undo_26 rfl rfl ?_
    refine V_dup2 (pc := 27) dX7_undo_27 rfl rfl ?_
    refine V_iald (pc := 28) dX7_undo_28 gg_44 (by decide) (by decide) (fun r28 => ?_)
    rw [show σ 44 (1 : Int).toNat = (q : Int) from et] at r28 ⊢
    refine V_iconst (pc := 29) dX7_undo_29 ?_
    refine V_isub (pc := 30) dX7_undo_30 ?_
    refine V_iast (pc := 31) dX7_undo_31 gg_44 (by decide) (by decide) (by first | assumption | exact b2_rg | decide | (constructor <;> omega)) ?_
    rw [show (1 : Int).toNat = 1 from rfl]
    refine V_aload_n (pc := 32) dX7_undo_32 rfl rfl ?_
    refine V_getr (pc := 33) dX7_undo_33 fX7_25 rfl gg_38 rfl ?_
    refine V_iload_n (pc := 36) dX7_undo_36 rfl rfl ?_
    refine V_iald (pc := 37) dX7_undo_37 gg_44 (by decide) (by decide) (fun r37 => ?_)
    rw [show (ms_ σ 44 1 ((q : Int) - 1)) 44 (1 : Int).toNat = (q : Int) - 1 from ms_eq] at r37 ⊢
    refine V_ireturn (pc := 38) dX7_undo_38 rfl rfl (fun hR => ?_)
    have hM2 : MR_ (ms_ a 0 1 ((q : Int) - 1)) (ms_ σ 44 1 ((q : Int) - 1)) := by
      refine h.txt hA2 (fun q h1 h2 => ms_rw h2) (fun k hk => ms_rw (by omega)) ⟨?_, ?_, ?_⟩
      · refine ⟨?_, fun i hi => ?_⟩
        · rw [show ((ms_ σ 44 1 ((q : Int) - 1)) 44 0) = σ 44 0 from by unfold ms_; rw [if_neg (by omega)], show ((ms_ a 0 1 ((q : Int) - 1)) 0 0) = a 0 0 from by unfold ms_; rw [if_neg (by omega)]]; exact hT0.1
        · rw [show ((ms_ σ 44 1 ((q : Int) - 1)) 43 (60 * 0 + i)) = σ 43 (60 * 0 + i) from by unfold ms_; rw [if_neg (by omega)], show ((ms_ a 0 1 ((q : Int) - 1)) 1 i) = a 1 i from by unfold ms_; rw [if_neg (by omega)]]; exact hT0.2 i hi
      · refine ⟨by rw [ms_eq, ms_eq], fun i hi => ?_⟩
        rw [show ((ms_ σ 44 1 ((q : Int) - 1)) 43 (60 * 1 + i)) = σ 43 (60 * 1 + i) from by unfold ms_; rw [if_neg (by omega)], show ((ms_ a 0 1 ((q : Int) - 1)) 2 i) = a 2 i from by unfold ms_; rw [if_neg (by omega)]]; exact hT1.2 i hi
      · refine ⟨?_, fun i hi => ?_⟩
        · rw [show ((ms_ σ 44 1 ((q : Int) - 1)) 44 2) = σ 44 2 from by unfold ms_; rw [if_neg (by omega)], show ((ms_ a 0 1 ((q : Int) - 1)) 0 2) = a 0 2 from by unfold ms_; rw [if_neg (by omega)]]; exact hT2.1
        · rw [show ((ms_ σ 44 1 ((q : Int) - 1)) 43 (60 * 2 + i)) = σ 43 (60 * 2 + i) from by unfold ms_; rw [if_neg (by omega)], show ((ms_ a 0 1 ((q : Int) - 1)) 3 i) = a 3 i from by unfold ms_; rw [if_neg (by omega)]]; exact hT2.2 i hi
    have h2 := hK _ (by rw [e]; exact hM2) (Gm_.rf.ms (by decide))
    rw [e] at h2
    exact h2
  · skip
    have e : nx_undo a 1 = (-3, a) := by unfold nx_undo; rw [if_neg (by omega), show ((1 : Int)).toNat = 1 from rfl, if_pos (show a 0 1 = 0 by omega)]
    refine V_bipush (pc := 19) dX7_undo_19 (by decide) ?_
    refine V_ireturn (pc := 21) dX7_undo_21 rfl rfl (fun hR => ?_)
    have h2 := hK σ (by rw [e]; exact h) Gm_.rf
    rw [e] at h2
    exact h2
theorem ct_X7_undo_2 (h : MR_ a σ) (hA2 : AW_ (nx_undo a 2).2) (hK : ∀ τ, MR_ (nx_undo a 2).2 τ → Gm_ σ τ → post (some (vi_ (nx_undo a 2).1)) τ) : V_ l D mX7_undo (CM_ D mX7_undo post) 0 [some (vr_ 38), some (vi_ 2)] [] σ := by
  have hA := h.1
  obtain ⟨hT0, hT1, hT2⟩ := h.2.1
  have h0 := hA.1
  obtain ⟨q, hq⟩ := i_nat (show 0 ≤ a 0 2 by omega)
  have et : σ 44 2 = (q : Int) := hT2.1.trans hq
  refine V_iload_n (pc := 0) dX7_undo_0 rfl rfl ?_
  refine V_callS (pc := 1) (as := [_]) (rest := []) dX7_undo_1 ⟨kX7_89, sX7_isText, by decide, by decide⟩ rfl rfl (Nat.le_of_ble_eq_true rfl) (Nat.le_of_ble_eq_true rfl) ?_
  refine ct_X7_isText (by decide) ?_
  show V_ _ _ _ _ _ _ [_] _
  refine V_if_ne (tgt := 10) (pc := 4) dX7_undo_4 (by decide) b2_rg (fun h4 => ?_) (fun h4 => by rw [b2_0] at h4; omega)
  refine V_aload_n (pc := 10) dX7_undo_10 rfl rfl ?_
  refine V_getr (pc := 11) dX7_undo_11 fX7_25 rfl gg_38 rfl ?_
  refine V_iload_n (pc := 14) dX7_undo_14 rfl rfl ?_
  refine V_iald (pc := 15) dX7_undo_15 gg_44 (by decide) (by decide) (fun r15 => ?_)
  rw [show σ 44 (2 : Int).toNat = (q : Int) from et] at r15 ⊢
  refine V_if_ne (tgt := 22) (pc := 16) dX7_undo_16 (by decide) (by first | assumption | exact b2_rg | decide | (constructor <;> omega)) (fun h16 => ?_) (fun h16 => ?_)
  · skip
    have e : nx_undo a 2 = ((q : Int) - 1, ms_ a 0 2 ((q : Int) - 1)) := by
      unfold nx_undo
      rw [if_neg (by omega), show ((2 : Int)).toNat = 2 from rfl, if_neg (show ¬ a 0 2 = 0 by omega), hq]
    rw [e] at hA2
    refine V_aload_n (pc := 22) dX7_undo_22 rfl rfl ?_
    refine V_getr (pc := 23) dX7_undo_23 fX7_25 rfl gg_38 rfl ?_
    refine V_iload_n (pc := 26) dX7_undo_26 rfl rfl ?_
    refine V_dup2 (pc := 27) dX7_undo_27 rfl rfl ?_
    refine V_iald (pc := 28) dX7_undo_28 gg_44 (by decide) (by decide) (fun r28 => ?_)
    rw [show σ 44 (2 : Int).toNat = (q : Int) from et] at r28 ⊢
    refine V_iconst (pc := 29) dX7_undo_29 ?_
    refine V_isub (pc := 30) dX7_undo_30 ?_
    refine V_iast (pc := 31) dX7_undo_31 gg_44 (by decide) (by decide) (by first | assumption | exact b2_rg | decide | (constructor <;> omega)) ?_
    rw [show (2 : Int).toNat = 2 from rfl]
    refine V_aload_n (pc := 32) dX7_undo_32 rfl rfl ?_
    refine V_getr (pc := 33) dX7_undo_33 fX7_25 rfl gg_38 rfl ?_
    refine V_iload_n (pc := 36) dX7_undo_36 rfl rfl ?_
    refine V_iald (pc := 37) dX7_undo_37 gg_44 (by decide) (by decide) (fun r37 => ?_)
    rw [show (ms_ σ 44 2 ((q : Int) - 1)) 44 (2 : Int).toNat = (q : Int) - 1 from ms_eq] at r37 ⊢
    refine V_ireturn (pc := 38) dX7_undo_38 rfl rfl (fun hR => ?_)
    have hM2 : MR_ (ms_ a 0 2 ((q : Int) - 1)) (ms_ σ 44 2 ((q : Int) - 1)) := by
      refine h.txt hA2 (fun q h1 h2 => ms_rw h2) (fun k hk => ms_rw (by omega)) ⟨?_, ?_, ?_⟩
      · refine ⟨?_, fun i hi => ?_⟩
        · rw [show ((ms_ σ 44 2 ((q : Int) - 1)) 44 0) = σ 44 0 from by unfold ms_; rw [if_neg (by omega)], show ((ms_ a 0 2 ((q : Int) - 1)) 0 0) = a 0 0 from by unfold ms_; rw [if_neg (by omega)]]; exact hT0.1
        · rw [show ((ms_ σ 44 2 ((q : Int) - 1)) 43 (60 * 0 + i)) = σ 43 (60 * 0 + i) from by unfold ms_; rw [if_neg (by omega)], show ((ms_ a 0 2 ((q : Int) - 1)) 1 i) = a 1 i from by unfold ms_; rw [if_neg (by omega)]]; exact hT0.2 i hi
      · refine ⟨?_, fun i hi => ?_⟩
        · rw [show ((ms_ σ 44 2 ((q : Int) - 1)) 44 1) = σ 44 1 from by unfold ms_; rw [if_neg (by omega)], show ((ms_ a 0 2 ((q : Int) - 1)) 0 1) = a 0 1 from by unfold ms_; rw [if_neg (by omega)]]; exact hT1.1
        · rw [show ((ms_ σ 44 2 ((q : Int) - 1)) 43 (60 * 1 + i)) = σ 43 (60 * 1 + i) from by unfold ms_; rw [if_neg (by omega)], show ((ms_ a 0 2 ((q : Int) - 1)) 2 i) = a 2 i from by unfold ms_; rw [if_neg (by omega)]]; exact hT1.2 i hi
      · refine ⟨by rw [ms_eq, ms_eq], fun i hi => ?_⟩
        rw [show ((ms_ σ 44 2 ((q : Int) - 1)) 43 (60 * 2 + i)) = σ 43 (60 * 2 + i) from by unfold ms_; rw [if_neg (by omega)], show ((ms_ a 0 2 ((q : Int) - 1)) 3 i) = a 3 i from by unfold ms_; rw [if_neg (by omega)]]; exact hT2.2 i hi
    have h2 := hK _ (by rw [e]; exact hM2) (Gm_.rf.ms (by decide))
    rw [e] at h2
    exact h2
  · skip
    have e : nx_undo a 2 = (-3, a) := by unfold nx_undo; rw [if_neg (by omega), show ((2 : Int)).toNat = 2 from rfl, if_pos (show a 0 2 = 0 by omega)]
    refine V_bipush (pc := 19) dX7_undo_19 (by decide) ?_
    refine V_ireturn (pc := 21) dX7_undo_21 rfl rfl (fun hR => ?_)
    have h2 := hK σ (by rw [e]; exact h) Gm_.rf
    rw [e] at h2
    exact h2
theorem ct_X7_undo {t : Int} (ht : Rg_ t) (h : MR_ a σ) (hA2 : AW_ (nx_undo a t).2) (hK : ∀ τ, MR_ (nx_undo a t).2 τ → Gm_ σ τ → post (some (vi_ (nx_undo a t).1)) τ) : V_ l D mX7_undo (CM_ D mX7_undo post) 0 [some (vr_ 38), some (vi_ t)] [] σ := by
  by_cases c0 : t = 0
  · subst c0; exact ct_X7_undo_0 h hA2 hK
  by_cases c1 : t = 1
  · subst c1; exact ct_X7_undo_1 h hA2 hK
  by_cases c2 : t = 2
  · subst c2; exact ct_X7_undo_2 h hA2 hK
  have e : nx_undo a t = (-2, a) := by unfold nx_undo; rw [if_pos (by omega)]
  refine V_iload_n (pc := 0) dX7_undo_0 rfl rfl ?_
  refine V_callS (pc := 1) (as := [_]) (rest := []) dX7_undo_1 ⟨kX7_89, sX7_isText, by decide, by decide⟩ rfl rfl (Nat.le_of_ble_eq_true rfl) (Nat.le_of_ble_eq_true rfl) ?_
  refine ct_X7_isText ht ?_
  show V_ _ _ _ _ _ _ [_] _
  refine V_if_ne (tgt := 10) (pc := 4) dX7_undo_4 (by decide) b2_rg (fun h4 => by rw [b2_n0] at h4; omega) (fun h4 => ?_)
  refine V_bipush (pc := 7) dX7_undo_7 (by decide) ?_
  refine V_ireturn (pc := 9) dX7_undo_9 rfl rfl (fun hR => ?_)
  have h2 := hK σ (by rw [e]; exact h) Gm_.rf
  rw [e] at h2
  exact h2
theorem ct_X7_fault_0 (h : MR_ a σ) (hK : ∀ τ, MR_ a τ → Gm_ σ τ → post (some (vi_ (an_fault a 0))) τ) : V_ l D mX7_fault (CM_ D mX7_fault post) 0 [some (vr_ 38), some (vi_ 0)] [] σ := by
  have hT := h.2.1.1
  have hL := h.1.1.1
  refine V_iload_n (pc := 0) dX7_fault_0 rfl rfl ?_
  refine V_callS (pc := 1) (as := [_]) (rest := []) dX7_fault_1 ⟨kX7_89, sX7_isText, by decide, by decide⟩ rfl rfl (Nat.le_of_ble_eq_true rfl) (Nat.le_of_ble_eq_true rfl) ?_
  refine ct_X7_isText (by decide) ?_
  show V_ _ _ _ _ _ _ [_] _
  refine V_if_eq (tgt := 15) (pc := 4) dX7_fault_4 (by decide) b2_rg (fun h4 => by rw [b2_0] at h4; omega) (fun h4 => ?_)
  refine V_aload_n (pc := 7) dX7_fault_7 rfl rfl ?_
  refine V_iload_n (pc := 8) dX7_fault_8 rfl rfl ?_
  refine V_callV (pc := 9) (as := [_]) (rest := []) dX7_fault_9 ⟨kX7_119, iX7_readsText, by decide, by decide⟩ rc_38 rfl rfl (Nat.le_of_ble_eq_true rfl) (Nat.le_of_ble_eq_true rfl) ?_
  refine ct_X7_readsText_0 hL hT (fun τ hB1 hB2 hB3 => ?_)
  show V_ _ _ _ _ _ _ [_] _
  refine V_goto (tgt := 17) (pc := 12) dX7_fault_12 (by decide) ?_
  refine V_ireturn (pc := 17) dX7_fault_17 rfl rfl (fun hR => ?_)
  exact rt_ (show _ = an_fault a 0 by unfold an_fault; rw [if_neg (by omega)]; rfl) (hK _ (h.pf (hB3.pf (by decide))) (hB3.pf (by decide)).gm)
theorem ct_X7_fault_1 (h : MR_ a σ) (hK : ∀ τ, MR_ a τ → Gm_ σ τ → post (some (vi_ (an_fault a 1))) τ) : V_ l D mX7_fault (CM_ D mX7_fault post) 0 [some (vr_ 38), some (vi_ 1)] [] σ := by
  have hT := h.2.1.2.1
  have hL := h.1.1.2.1
  refine V_iload_n (pc := 0) dX7_fault_0 rfl rfl ?_
  refine V_callS (pc := 1) (as := [_]) (rest := []) dX7_fault_1 ⟨kX7_89, sX7_isText, by decide, by decide⟩ rfl rfl (Nat.le_of_ble_eq_true rfl) (Nat.le_of_ble_eq_true rfl) ?_
  refine ct_X7_isText (by decide) ?_
  show V_ _ _ _ _ _ _ [_] _
  refine V_if_eq (tgt := 15) (pc := 4) dX7_fault_4 (by decide) b2_rg (fun h4 => by rw [b2_0] at h4; omega) (fun h4 => ?_)
  refine V_aload_n (pc := 7) dX7_fault_7 rfl rfl ?_
  refine V_iload_n (pc := 8) dX7_fault_8 rfl rfl ?_
  refine V_callV (pc := 9) (as := [_]) (rest := []) dX7_fault_9 ⟨kX7_119, iX7_readsText, by decide, by decide⟩ rc_38 rfl rfl (Nat.le_of_ble_eq_true rfl) (Nat.le_of_ble_eq_true rfl) ?_
  refine ct_X7_readsText_1 hL hT (fun τ hB1 hB2 hB3 => ?_)
  show V_ _ _ _ _ _ _ [_] _
  refine V_goto (tgt := 17) (pc := 12) dX7_fault_12 (by decide) ?_
  refine V_ireturn (pc := 17) dX7_fault_17 rfl rfl (fun hR => ?_)
  exact rt_ (show _ = an_fault a 1 by unfold an_fault; rw [if_neg (by omega)]; rfl) (hK _ (h.pf (hB3.pf (by decide))) (hB3.pf (by decide)).gm)
theorem ct_X7_fault_2 (h : MR_ a σ) (hK : ∀ τ, MR_ a τ → Gm_ σ τ → post (some (vi_ (an_fault a 2))) τ) : V_ l D mX7_fault (CM_ D mX7_fault post) 0 [some (vr_ 38), some (vi_ 2)] [] σ := by
  have hT := h.2.1.2.2
  have hL := h.1.1.2.2
  refine V_iload_n (pc := 0) dX7_fault_0 rfl rfl ?_
  refine V_callS (pc := 1) (as := [_]) (rest := []) dX7_fault_1 ⟨kX7_89, sX7_isText, by decide, by decide⟩ rfl rfl (Nat.le_of_ble_eq_true rfl) (Nat.le_of_ble_eq_true rfl) ?_
  refine ct_X7_isText (by decide) ?_
  show V_ _ _ _ _ _ _ [_] _
  refine V_if_eq (tgt := 15) (pc := 4) dX7_fault_4 (by decide) b2_rg (fun h4 => by rw [b2_0] at h4; omega) (fun h4 => ?_)
  refine V_aload_n (pc := 7) dX7_fault_7 rfl rfl ?_
  refine V_iload_n (pc := 8) dX7_fault_8 rfl rfl ?_
  refine V_callV (pc := 9) (as := [_]) (rest := []) dX7_fault_9 ⟨kX7_119, iX7_readsText, by decide, by decide⟩ rc_38 rfl rfl (Nat.le_of_ble_eq_true rfl) (Nat.le_of_ble_eq_true rfl) ?_
  refine ct_X7_readsText_2 hL hT (fun τ hB1 hB2 hB3 => ?_)
  show V_ _ _ _ _ _ _ [_] _
  refine V_goto (tgt := 17) (pc := 12) dX7_fault_12 (by decide) ?_
  refine V_ireturn (pc := 17) dX7_fault_17 rfl rfl (fun hR => ?_)
  exact rt_ (show _ = an_fault a 2 by unfold an_fault; rw [if_neg (by omega)]; rfl) (hK _ (h.pf (hB3.pf (by decide))) (hB3.pf (by decide)).gm)
theorem ct_X7_fault {t : Int} (ht : Rg_ t) (h : MR_ a σ) (hK : ∀ τ, MR_ a τ → Gm_ σ τ → post (some (vi_ (an_fault a t))) τ) : V_ l D mX7_fault (CM_ D mX7_fault post) 0 [some (vr_ 38), some (vi_ t)] [] σ := by
  by_cases c0 : t = 0
  · subst c0; exact ct_X7_fault_0 h hK
  by_cases c1 : t = 1
  · subst c1; exact ct_X7_fault_1 h hK
  by_cases c2 : t = 2
  · subst c2; exact ct_X7_fault_2 h hK
  refine V_iload_n (pc := 0) dX7_fault_0 rfl rfl ?_
  refine V_callS (pc := 1) (as := [_]) (rest := []) dX7_fault_1 ⟨kX7_89, sX7_isText, by decide, by decide⟩ rfl rfl (Nat.le_of_ble_eq_true rfl) (Nat.le_of_ble_eq_true rfl) ?_
  refine ct_X7_isText ht ?_
  show V_ _ _ _ _ _ _ [_] _
  refine V_if_eq (tgt := 15) (pc := 4) dX7_fault_4 (by decide) b2_rg (fun h4 => ?_) (fun h4 => ?_)
  · skip
    refine V_bipush (pc := 15) dX7_fault_15 (by decide) ?_
    refine V_ireturn (pc := 17) dX7_fault_17 rfl rfl (fun hR => ?_)
    exact rt_ (show _ = an_fault a t by unfold an_fault; rw [if_pos (by omega)]) (hK _ h Gm_.rf)
  · skip
    refine V_aload_n (pc := 7) dX7_fault_7 rfl rfl ?_
    refine V_iload_n (pc := 8) dX7_fault_8 rfl rfl ?_
    refine V_callV (pc := 9) (as := [_]) (rest := []) dX7_fault_9 ⟨kX7_119, iX7_readsText, by decide, by decide⟩ rc_38 rfl rfl (Nat.le_of_ble_eq_true rfl) (Nat.le_of_ble_eq_true rfl) ?_
    exfalso; rw [b2_n0] at h4; omega
theorem ct_X7_struck {s : Int} (hs : Rg_ s) (h : MR_ a σ) (hA2 : AW_ (nx_struck a s).2) (hK : ∀ τ, MR_ (nx_struck a s).2 τ → Gm_ σ τ → post (some (vi_ (nx_struck a s).1)) τ) : V_ l D mX7_struck (CM_ D mX7_struck post) 0 [some (vr_ 38), some (vi_ s), none] [] σ := by
  have h3 := h.2.2.1
  refine V_iload_n (pc := 0) dX7_struck_0 rfl rfl ?_
  refine V_i2l (pc := 1) dX7_struck_1 (by first | assumption | exact b2_rg | decide | (constructor <;> omega)) ?_
  refine V_lconst (z := 0) (pc := 2) dX7_struck_2 rfl ?_
  refine V_ldc2 (v := (255)) (z := 255) (pc := 3) dX7_struck_3 (tb_in 869 (by decide +kernel) rfl) (by decide +kernel) ?_
  refine V_callS (pc := 6) (as := [_, _, _]) (rest := []) dX7_struck_6 ⟨kX7_61, sX7_in, by decide, by decide⟩ rfl rfl (Nat.le_of_ble_eq_true rfl) (Nat.le_of_ble_eq_true rfl) ?_
  refine ct_X7_in (by constructor <;> omega) (by decide) (by decide) ?_
  show V_ _ _ _ _ _ _ [_] _
  refine V_if_ne (tgt := 15) (pc := 9) dX7_struck_9 (by decide) b2_rg (fun h9 => ?_) (fun h9 => ?_)
  · skip
    rw [b2_n0] at h9
    have e : nx_struck a s = (a 4 0, ms_ a 4 0 s) := if_neg (fun z => z h9)
    rw [e] at hA2
    refine V_aload_n (pc := 15) dX7_struck_15 rfl rfl ?_
    refine V_geti (pc := 16) dX7_struck_16 fX7_136 rfl gg_38 rfl (fun r16 => ?_)
    rw [h3.1] at r16 ⊢
    refine V_istore_n (pc := 19) dX7_struck_19 rfl (by decide) rfl ?_
    show V_ _ _ _ _ _ [_, _, _] _ _
    refine V_aload_n (pc := 20) dX7_struck_20 rfl rfl ?_
    refine V_iload_n (pc := 21) dX7_struck_21 rfl rfl ?_
    refine V_puti (pc := 22) dX7_struck_22 fX7_136 rfl gg_38 rfl pq_7_12 rfl rfl (by first | assumption | exact b2_rg | decide | (constructor <;> omega)) ?_
    refine V_iload_n (pc := 25) dX7_struck_25 rfl rfl ?_
    refine V_ireturn (pc := 26) dX7_struck_26 rfl rfl (fun hR => ?_)
    have hM2 : MR_ (ms_ a 4 0 s) (ms_ σ 38 12 s) := by
      refine h.oth hA2 (fun q h1 h2 h3 => ms_rw h1) (fun k hk => ms_rw (by omega)) ⟨by rw [ms_eq, ms_eq], ?_, ?_⟩ ?_ ?_
      · rw [ms_ne (by decide), ms_nk (by decide)]; exact h3.2.1
      · rw [ms_ne (by decide)]; exact h3.2.2
      · have h4 := h.2.2.2.1
        unfold ML_ at h4 ⊢
        rw [ms_ne (by decide), ms_rw (by decide), ms_rw (by decide), ms_rw (by decide), ms_rw (by decide)]; exact h4
      · have h5 := h.2.2.2.2.1
        unfold MG_ at h5 ⊢
        rw [ms_ne (by decide), ms_rw (by decide), ms_rw (by decide), ms_rw (by decide), ms_rw (by decide)]; exact h5
    have h2 := hK _ (by rw [e]; exact hM2) (Gm_.rf.ms (by decide))
    rw [e] at h2
    exact h2
  · skip
    rw [b2_0] at h9
    have e : nx_struck a s = (-2, a) := if_pos h9
    refine V_bipush (pc := 12) dX7_struck_12 (by decide) ?_
    refine V_ireturn (pc := 14) dX7_struck_14 rfl rfl (fun hR => ?_)
    have h2 := hK σ (by rw [e]; exact h) Gm_.rf
    rw [e] at h2
    exact h2
theorem ct_X7_loss {y s : Int} (hy : Rg_ y) (hs : Rg_ s) (h : MR_ a σ) (hA2 : AW_ (nx_loss a y s).2) (hK : ∀ τ, MR_ (nx_loss a y s).2 τ → Gm_ σ τ → post (some (vi_ (nx_loss a y s).1)) τ) : V_ l D mX7_loss (CM_ D mX7_loss post) 0 [some (vr_ 38), some (vi_ y), some (vi_ s)] [] σ := by
  have h3 := h.2.2.1
  have hLW : 0 ≤ a 5 0 ∧ a 5 0 ≤ 12 := h.1.2.2.2.1.1
  have hL := h.2.2.2.1
  obtain ⟨q, hq⟩ := i_nat hLW.1
  have hs7 : σ 38 13 = (q : Int) := hL.1.trans hq
  refine V_iload_n (pc := 0) dX7_loss_0 rfl rfl ?_
  refine V_callS (pc := 1) (as := [_]) (rest := []) dX7_loss_1 ⟨kX7_164, sX7_isYear, by decide, by decide⟩ rfl rfl (Nat.le_of_ble_eq_true rfl) (Nat.le_of_ble_eq_true rfl) ?_
  refine ct_X7_isYear hy ?_
  show V_ _ _ _ _ _ _ [_] _
  refine V_if_eq (tgt := 19) (pc := 4) dX7_loss_4 (by decide) b2_rg (fun h4 => ?_) (fun h4 => ?_)
  · skip
    rw [b2_0] at h4
    have e : nx_loss a y s = (-2, a) := if_pos (fun z => h4 z.1)
    refine V_bipush (pc := 19) dX7_loss_19 (by decide) ?_
    refine V_ireturn (pc := 21) dX7_loss_21 rfl rfl (fun hR => ?_)
    have h2 := hK σ (by rw [e]; exact h) Gm_.rf
    rw [e] at h2
    exact h2
  · skip
    rw [b2_n0] at h4
    refine V_iload_n (pc := 7) dX7_loss_7 rfl rfl ?_
    refine V_i2l (pc := 8) dX7_loss_8 (by first | assumption | exact b2_rg | decide | (constructor <;> omega)) ?_
    refine V_lconst (z := 0) (pc := 9) dX7_loss_9 rfl ?_
    refine V_ldc2 (v := (5)) (z := 5) (pc := 10) dX7_loss_10 (tb_in 996 (by decide +kernel) rfl) (by decide +kernel) ?_
    refine V_callS (pc := 13) (as := [_, _, _]) (rest := []) dX7_loss_13 ⟨kX7_61, sX7_in, by decide, by decide⟩ rfl rfl (Nat.le_of_ble_eq_true rfl) (Nat.le_of_ble_eq_true rfl) ?_
    refine ct_X7_in (by constructor <;> omega) (by decide) (by decide) ?_
    show V_ _ _ _ _ _ _ [_] _
    refine V_if_ne (tgt := 22) (pc := 16) dX7_loss_16 (by decide) b2_rg (fun h16 => ?_) (fun h16 => ?_)
    · skip
      rw [b2_n0] at h16
      refine V_aload_n (pc := 22) dX7_loss_22 rfl rfl ?_
      refine V_geti (pc := 23) dX7_loss_23 fX7_169 rfl gg_38 rfl (fun r23 => ?_)
      rw [hs7] at r23 ⊢
      refine V_bipush (pc := 26) dX7_loss_26 (by decide) ?_
      refine V_icmp_ne (tgt := 34) (pc := 28) dX7_loss_28 (by decide) (by first | assumption | exact b2_rg | decide | (constructor <;> omega)) (by first | assumption | exact b2_rg | decide | (constructor <;> omega)) (fun h28 => ?_) (fun h28 => ?_)
      · skip
        have e : nx_loss a y s = ((q : Int) + 1, ms_ (ms_ (ms_ a 6 q y) 7 q s) 5 0 ((q : Int) + 1)) := by unfold nx_loss ap_; rw [if_neg (fun z => z ⟨h4, h16⟩), if_neg (by omega), hq]; rfl
        rw [e] at hA2
        refine V_aload_n (pc := 34) dX7_loss_34 rfl rfl ?_
        refine V_getr (pc := 35) dX7_loss_35 fX7_40 rfl gg_38 rfl ?_
        refine V_iconst (pc := 38) dX7_loss_38 ?_
        refine V_aload_n (pc := 39) dX7_loss_39 rfl rfl ?_
        refine V_geti (pc := 40) dX7_loss_40 fX7_169 rfl gg_38 rfl (fun r40 => ?_)
        rw [hs7] at r40 ⊢
        refine V_imul (pc := 43) dX7_loss_43 ?_
        refine V_iload_n (pc := 44) dX7_loss_44 rfl rfl ?_
        refine V_iast (pc := 45) dX7_loss_45 gg_49 (by have : ((24 : Nat) : Int) = 24 := rfl; omega) (by decide) (by first | assumption | exact b2_rg | decide | (constructor <;> omega)) ?_
        rw [show (2 * (q : Int)).toNat = 2 * q by omega]
        refine V_aload_n (pc := 46) dX7_loss_46 rfl rfl ?_
        refine V_getr (pc := 47) dX7_loss_47 fX7_40 rfl gg_38 rfl ?_
        refine V_iconst (pc := 50) dX7_loss_50 ?_
        refine V_aload_n (pc := 51) dX7_loss_51 rfl rfl ?_
        refine V_geti (pc := 52) dX7_loss_52 fX7_169 rfl gg_38 rfl (fun r52 => ?_)
        rw [show ms_ σ 49 (2 * q) y 38 13 = (q : Int) from by rw [ms_nk (by decide)]; exact hs7] at r52 ⊢
        refine V_imul (pc := 55) dX7_loss_55 ?_
        refine V_iconst (pc := 56) dX7_loss_56 ?_
        refine V_iadd (pc := 57) dX7_loss_57 ?_
        refine V_iload_n (pc := 58) dX7_loss_58 rfl rfl ?_
        refine V_iast (pc := 59) dX7_loss_59 gg_49 (by have : ((24 : Nat) : Int) = 24 := rfl; omega) (by decide) (by first | assumption | exact b2_rg | decide | (constructor <;> omega)) ?_
        rw [show (2 * (q : Int) + 1).toNat = 2 * q + 1 by omega]
        refine V_aload_n (pc := 60) dX7_loss_60 rfl rfl ?_
        refine V_dup (pc := 61) dX7_loss_61 rfl ?_
        refine V_geti (pc := 62) dX7_loss_62 fX7_169 rfl gg_38 rfl (fun r62 => ?_)
        rw [show (ms_ (ms_ σ 49 (2 * q) y) 49 (2 * q + 1) s) 38 13 = (q : Int) from by rw [ms_nk (by decide), ms_nk (by decide)]; exact hs7] at r62 ⊢
        refine V_iconst (pc := 65) dX7_loss_65 ?_
        refine V_iadd (pc := 66) dX7_loss_66 ?_
        refine V_puti (pc := 67) dX7_loss_67 fX7_169 rfl gg_38 rfl pq_7_13 rfl rfl (by first | assumption | exact b2_rg | decide | (constructor <;> omega)) ?_
        refine V_aload_n (pc := 70) dX7_loss_70 rfl rfl ?_
        refine V_geti (pc := 71) dX7_loss_71 fX7_169 rfl gg_38 rfl (fun r71 => ?_)
        rw [show (ms_ (ms_ (ms_ σ 49 (2 * q) y) 49 (2 * q + 1) s) 38 13 ((q : Int) + 1)) 38 13 = (q : Int) + 1 from ms_eq] at r71 ⊢
        refine V_ireturn (pc := 74) dX7_loss_74 rfl rfl (fun hR => ?_)
        have hM2 : MR_ (ms_ (ms_ (ms_ a 6 q y) 7 q s) 5 0 ((q : Int) + 1)) (ms_ (ms_ (ms_ σ 49 (2 * q) y) 49 (2 * q + 1) s) 38 13 ((q : Int) + 1)) := by
          refine h.oth hA2 (fun q h1 h2 h3 => by rw [ms_rw h1, ms_rw h2, ms_rw h2]) (fun k hk => by rw [ms_rw (by omega), ms_rw (by omega), ms_rw (by omega)]) ⟨?_, ?_, ?_⟩ ?_ ?_
          · rw [ms_ne (by decide), ms_nk (by decide), ms_nk (by decide), ms_nk (by decide), ms_nk (by decide), ms_nk (by decide)]; exact h3.1
          · rw [ms_ne (by decide), ms_nk (by decide), ms_nk (by decide), ms_nk (by decide), ms_nk (by decide), ms_nk (by decide)]; exact h3.2.1
          · rw [ms_ne (by decide), ms_nk (by decide), ms_nk (by decide)]; exact h3.2.2
          · refine ⟨by rw [ms_eq, ms_eq], fun i hi => ?_⟩
            rw [ms_eq] at hi
            have g1 : (ms_ (ms_ (ms_ σ 49 (2 * q) y) 49 (2 * q + 1) s) 38 13 ((q : Int) + 1)) 49 (2 * i) = if i = q then y else σ 49 (2 * i) := by
              by_cases c : i = q
              · rw [if_pos c]; unfold ms_; rw [if_neg (by omega), if_neg (by omega), if_pos (by omega)]
              · rw [if_neg c]; unfold ms_; rw [if_neg (by omega), if_neg (by omega), if_neg (by omega)]
            have g2 : (ms_ (ms_ (ms_ σ 49 (2 * q) y) 49 (2 * q + 1) s) 38 13 ((q : Int) + 1)) 49 (2 * i + 1) = if i = q then s else σ 49 (2 * i + 1) := by
              by_cases c : i = q
              · rw [if_pos c]; unfold ms_; rw [if_neg (by omega), if_pos (by omega)]
              · rw [if_neg c]; unfold ms_; rw [if_neg (by omega), if_neg (by omega), if_neg (by omega)]
            have g3 : (ms_ (ms_ (ms_ a 6 q y) 7 q s) 5 0 ((q : Int) + 1)) 6 i = if i = q then y else a 6 i := by
              by_cases c : i = q <;> simp [ms_, c]
            have g4 : (ms_ (ms_ (ms_ a 6 q y) 7 q s) 5 0 ((q : Int) + 1)) 7 i = if i = q then s else a 7 i := by
              by_cases c : i = q <;> simp [ms_, c]
            rw [g1, g2, g3, g4]
            by_cases c : i = q
            · rw [if_pos c, if_pos c, if_pos c, if_pos c]; exact ⟨rfl, rfl⟩
            · rw [if_neg c, if_neg c, if_neg c, if_neg c]; exact hL.2 i (by omega)
          · have h5 := h.2.2.2.2.1
            unfold MG_ at h5 ⊢
            rw [show (ms_ (ms_ (ms_ σ 49 (2 * q) y) 49 (2 * q + 1) s) 38 13 ((q : Int) + 1)) 38 22 = σ 38 22 from by simp [ms_], show (ms_ (ms_ (ms_ σ 49 (2 * q) y) 49 (2 * q + 1) s) 38 13 ((q : Int) + 1)) 52 = σ 52 from by rw [ms_rw (by decide), ms_rw (by decide), ms_rw (by decide)], show (ms_ (ms_ (ms_ a 6 q y) 7 q s) 5 0 ((q : Int) + 1)) 8 = a 8 from by rw [ms_rw (by decide), ms_rw (by decide), ms_rw (by decide)], show (ms_ (ms_ (ms_ a 6 q y) 7 q s) 5 0 ((q : Int) + 1)) 9 = a 9 from by rw [ms_rw (by decide), ms_rw (by decide), ms_rw (by decide)], show (ms_ (ms_ (ms_ a 6 q y) 7 q s) 5 0 ((q : Int) + 1)) 10 = a 10 from by rw [ms_rw (by decide), ms_rw (by decide), ms_rw (by decide)]]
            exact h5
        have h2 := hK _ (by rw [e]; exact hM2) (((Gm_.rf.ms (by decide)).ms (by decide)).ms (by decide))
        rw [e] at h2
        exact h2
      · skip
        have e : nx_loss a y s = (-4, a) := by unfold nx_loss; rw [if_neg (fun z => z ⟨h4, h16⟩), if_pos (by omega)]
        refine V_bipush (pc := 31) dX7_loss_31 (by decide) ?_
        refine V_ireturn (pc := 33) dX7_loss_33 rfl rfl (fun hR => ?_)
        have h2 := hK σ (by rw [e]; exact h) Gm_.rf
        rw [e] at h2
        exact h2
    · skip
      rw [b2_0] at h16
      have e : nx_loss a y s = (-2, a) := if_pos (fun z => h16 z.2)
      refine V_bipush (pc := 19) dX7_loss_19 (by decide) ?_
      refine V_ireturn (pc := 21) dX7_loss_21 rfl rfl (fun hR => ?_)
      have h2 := hK σ (by rw [e]; exact h) Gm_.rf
      rw [e] at h2
      exact h2
theorem ct_X7_seen {s p : Int} (hs : Rg_ s) (hp : Rg_ p) (h : MR_ a σ) (hA2 : AW_ (nx_seen a s p).2) (hK : ∀ τ, MR_ (nx_seen a s p).2 τ → Gm_ σ τ → post (some (vi_ (nx_seen a s p).1)) τ) : V_ l D mX7_seen (CM_ D mX7_seen post) 0 [some (vr_ 38), some (vi_ s), some (vi_ p)] [] σ := by
  have h3 := h.2.2.1
  have hLW : 0 ≤ a 8 0 ∧ a 8 0 ≤ 8 := h.1.2.2.2.2.1.1
  have hL := h.2.2.2.2.1
  obtain ⟨q, hq⟩ := i_nat hLW.1
  have hs7 : σ 38 22 = (q : Int) := hL.1.trans hq
  refine V_iload_n (pc := 0) dX7_seen_0 rfl rfl ?_
  refine V_i2l (pc := 1) dX7_seen_1 (by first | assumption | exact b2_rg | decide | (constructor <;> omega)) ?_
  refine V_lconst (z := 0) (pc := 2) dX7_seen_2 rfl ?_
  refine V_ldc2 (v := (5)) (z := 5) (pc := 3) dX7_seen_3 (tb_in 996 (by decide +kernel) rfl) (by decide +kernel) ?_
  refine V_callS (pc := 6) (as := [_, _, _]) (rest := []) dX7_seen_6 ⟨kX7_61, sX7_in, by decide, by decide⟩ rfl rfl (Nat.le_of_ble_eq_true rfl) (Nat.le_of_ble_eq_true rfl) ?_
  refine ct_X7_in (by constructor <;> omega) (by decide) (by decide) ?_
  show V_ _ _ _ _ _ _ [_] _
  refine V_if_eq (tgt := 24) (pc := 9) dX7_seen_9 (by decide) b2_rg (fun h9 => ?_) (fun h9 => ?_)
  · skip
    rw [b2_0] at h9
    have e : nx_seen a s p = (-2, a) := if_pos (fun z => h9 z.1)
    refine V_bipush (pc := 24) dX7_seen_24 (by decide) ?_
    refine V_ireturn (pc := 26) dX7_seen_26 rfl rfl (fun hR => ?_)
    have h2 := hK σ (by rw [e]; exact h) Gm_.rf
    rw [e] at h2
    exact h2
  · skip
    rw [b2_n0] at h9
    refine V_iload_n (pc := 12) dX7_seen_12 rfl rfl ?_
    refine V_i2l (pc := 13) dX7_seen_13 (by first | assumption | exact b2_rg | decide | (constructor <;> omega)) ?_
    refine V_lconst (z := 0) (pc := 14) dX7_seen_14 rfl ?_
    refine V_ldc2 (v := (999)) (z := 999) (pc := 15) dX7_seen_15 (tb_in 1096 (by decide +kernel) rfl) (by decide +kernel) ?_
    refine V_callS (pc := 18) (as := [_, _, _]) (rest := []) dX7_seen_18 ⟨kX7_61, sX7_in, by decide, by decide⟩ rfl rfl (Nat.le_of_ble_eq_true rfl) (Nat.le_of_ble_eq_true rfl) ?_
    refine ct_X7_in (by constructor <;> omega) (by decide) (by decide) ?_
    show V_ _ _ _ _ _ _ [_] _
    refine V_if_ne (tgt := 27) (pc := 21) dX7_seen_21 (by decide) b2_rg (fun h21 => ?_) (fun h21 => ?_)
    · skip
      rw [b2_n0] at h21
      refine V_aload_n (pc := 27) dX7_seen_27 rfl rfl ?_
      refine V_geti (pc := 28) dX7_seen_28 fX7_236 rfl gg_38 rfl (fun r28 => ?_)
      rw [hs7] at r28 ⊢
      refine V_bipush (pc := 31) dX7_seen_31 (by decide) ?_
      refine V_icmp_ne (tgt := 39) (pc := 33) dX7_seen_33 (by decide) (by first | assumption | exact b2_rg | decide | (constructor <;> omega)) (by first | assumption | exact b2_rg | decide | (constructor <;> omega)) (fun h33 => ?_) (fun h33 => ?_)
      · skip
        have e : nx_seen a s p = ((q : Int) + 1, ms_ (ms_ (ms_ a 9 q s) 10 q p) 8 0 ((q : Int) + 1)) := by unfold nx_seen; rw [if_neg (fun z => z ⟨h9, h21⟩), if_neg (by omega), hq]; rfl
        rw [e] at hA2
        refine V_aload_n (pc := 39) dX7_seen_39 rfl rfl ?_
        refine V_getr (pc := 40) dX7_seen_40 fX7_49 rfl gg_38 rfl ?_
        refine V_iconst (pc := 43) dX7_seen_43 ?_
        refine V_aload_n (pc := 44) dX7_seen_44 rfl rfl ?_
        refine V_geti (pc := 45) dX7_seen_45 fX7_236 rfl gg_38 rfl (fun r45 => ?_)
        rw [hs7] at r45 ⊢
        refine V_imul (pc := 48) dX7_seen_48 ?_
        refine V_iload_n (pc := 49) dX7_seen_49 rfl rfl ?_
        refine V_iast (pc := 50) dX7_seen_50 gg_52 (by have : ((16 : Nat) : Int) = 16 := rfl; omega) (by decide) (by first | assumption | exact b2_rg | decide | (constructor <;> omega)) ?_
        rw [show (2 * (q : Int)).toNat = 2 * q by omega]
        refine V_aload_n (pc := 51) dX7_seen_51 rfl rfl ?_
        refine V_getr (pc := 52) dX7_seen_52 fX7_49 rfl gg_38 rfl ?_
        refine V_iconst (pc := 55) dX7_seen_55 ?_
        refine V_aload_n (pc := 56) dX7_seen_56 rfl rfl ?_
        refine V_geti (pc := 57) dX7_seen_57 fX7_236 rfl gg_38 rfl (fun r57 => ?_)
        rw [show ms_ σ 52 (2 * q) s 38 22 = (q : Int) from by rw [ms_nk (by decide)]; exact hs7] at r57 ⊢
        refine V_imul (pc := 60) dX7_seen_60 ?_
        refine V_iconst (pc := 61) dX7_seen_61 ?_
        refine V_iadd (pc := 62) dX7_seen_62 ?_
        refine V_iload_n (pc := 63) dX7_seen_63 rfl rfl ?_
        refine V_iast (pc := 64) dX7_seen_64 gg_52 (by have : ((16 : Nat) : Int) = 16 := rfl; omega) (by decide) (by first | assumption | exact b2_rg | decide | (constructor <;> omega)) ?_
        rw [show (2 * (q : Int) + 1).toNat = 2 * q + 1 by omega]
        refine V_aload_n (pc := 65) dX7_seen_65 rfl rfl ?_
        refine V_dup (pc := 66) dX7_seen_66 rfl ?_
        refine V_geti (pc := 67) dX7_seen_67 fX7_236 rfl gg_38 rfl (fun r67 => ?_)
        rw [show (ms_ (ms_ σ 52 (2 * q) s) 52 (2 * q + 1) p) 38 22 = (q : Int) from by rw [ms_nk (by decide), ms_nk (by decide)]; exact hs7] at r67 ⊢
        refine V_iconst (pc := 70) dX7_seen_70 ?_
        refine V_iadd (pc := 71) dX7_seen_71 ?_
        refine V_puti (pc := 72) dX7_seen_72 fX7_236 rfl gg_38 rfl pq_7_22 rfl rfl (by first | assumption | exact b2_rg | decide | (constructor <;> omega)) ?_
        refine V_aload_n (pc := 75) dX7_seen_75 rfl rfl ?_
        refine V_geti (pc := 76) dX7_seen_76 fX7_236 rfl gg_38 rfl (fun r76 => ?_)
        rw [show (ms_ (ms_ (ms_ σ 52 (2 * q) s) 52 (2 * q + 1) p) 38 22 ((q : Int) + 1)) 38 22 = (q : Int) + 1 from ms_eq] at r76 ⊢
        refine V_ireturn (pc := 79) dX7_seen_79 rfl rfl (fun hR => ?_)
        have hM2 : MR_ (ms_ (ms_ (ms_ a 9 q s) 10 q p) 8 0 ((q : Int) + 1)) (ms_ (ms_ (ms_ σ 52 (2 * q) s) 52 (2 * q + 1) p) 38 22 ((q : Int) + 1)) := by
          refine h.oth hA2 (fun q h1 h2 h3 => by rw [ms_rw h1, ms_rw h3, ms_rw h3]) (fun k hk => by rw [ms_rw (by omega), ms_rw (by omega), ms_rw (by omega)]) ⟨?_, ?_, ?_⟩ ?_ ?_
          · rw [ms_ne (by decide), ms_nk (by decide), ms_nk (by decide), ms_nk (by decide), ms_nk (by decide), ms_nk (by decide)]; exact h3.1
          · rw [ms_ne (by decide), ms_nk (by decide), ms_nk (by decide), ms_nk (by decide), ms_nk (by decide), ms_nk (by decide)]; exact h3.2.1
          · rw [ms_ne (by decide), ms_nk (by decide), ms_nk (by decide)]; exact h3.2.2
          · have h5 := h.2.2.2.1
            unfold ML_ at h5 ⊢
            rw [show (ms_ (ms_ (ms_ σ 52 (2 * q) s) 52 (2 * q + 1) p) 38 22 ((q : Int) + 1)) 38 13 = σ 38 13 from by simp [ms_], show (ms_ (ms_ (ms_ σ 52 (2 * q) s) 52 (2 * q + 1) p) 38 22 ((q : Int) + 1)) 49 = σ 49 from by rw [ms_rw (by decide), ms_rw (by decide), ms_rw (by decide)], show (ms_ (ms_ (ms_ a 9 q s) 10 q p) 8 0 ((q : Int) + 1)) 5 = a 5 from by rw [ms_rw (by decide), ms_rw (by decide), ms_rw (by decide)], show (ms_ (ms_ (ms_ a 9 q s) 10 q p) 8 0 ((q : Int) + 1)) 6 = a 6 from by rw [ms_rw (by decide), ms_rw (by decide), ms_rw (by decide)], show (ms_ (ms_ (ms_ a 9 q s) 10 q p) 8 0 ((q : Int) + 1)) 7 = a 7 from by rw [ms_rw (by decide), ms_rw (by decide), ms_rw (by decide)]]
            exact h5
          · refine ⟨by rw [ms_eq, ms_eq], fun i hi => ?_⟩
            rw [ms_eq] at hi
            have g1 : (ms_ (ms_ (ms_ σ 52 (2 * q) s) 52 (2 * q + 1) p) 38 22 ((q : Int) + 1)) 52 (2 * i) = if i = q then s else σ 52 (2 * i) := by
              by_cases c : i = q
              · rw [if_pos c]; unfold ms_; rw [if_neg (by omega), if_neg (by omega), if_pos (by omega)]
              · rw [if_neg c]; unfold ms_; rw [if_neg (by omega), if_neg (by omega), if_neg (by omega)]
            have g2 : (ms_ (ms_ (ms_ σ 52 (2 * q) s) 52 (2 * q + 1) p) 38 22 ((q : Int) + 1)) 52 (2 * i + 1) = if i = q then p else σ 52 (2 * i + 1) := by
              by_cases c : i = q
              · rw [if_pos c]; unfold ms_; rw [if_neg (by omega), if_pos (by omega)]
              · rw [if_neg c]; unfold ms_; rw [if_neg (by omega), if_neg (by omega), if_neg (by omega)]
            have g3 : (ms_ (ms_ (ms_ a 9 q s) 10 q p) 8 0 ((q : Int) + 1)) 9 i = if i = q then s else a 9 i := by
              by_cases c : i = q <;> simp [ms_, c]
            have g4 : (ms_ (ms_ (ms_ a 9 q s) 10 q p) 8 0 ((q : Int) + 1)) 10 i = if i = q then p else a 10 i := by
              by_cases c : i = q <;> simp [ms_, c]
            rw [g1, g2, g3, g4]
            by_cases c : i = q
            · rw [if_pos c, if_pos c, if_pos c, if_pos c]; exact ⟨rfl, rfl⟩
            · rw [if_neg c, if_neg c, if_neg c, if_neg c]; exact hL.2 i (by omega)
        have h2 := hK _ (by rw [e]; exact hM2) (((Gm_.rf.ms (by decide)).ms (by decide)).ms (by decide))
        rw [e] at h2
        exact h2
      · skip
        have e : nx_seen a s p = (-4, a) := by unfold nx_seen; rw [if_neg (fun z => z ⟨h9, h21⟩), if_pos (by omega)]
        refine V_bipush (pc := 36) dX7_seen_36 (by decide) ?_
        refine V_ireturn (pc := 38) dX7_seen_38 rfl rfl (fun hR => ?_)
        have h2 := hK σ (by rw [e]; exact h) Gm_.rf
        rw [e] at h2
        exact h2
    · skip
      rw [b2_0] at h21
      have e : nx_seen a s p = (-2, a) := if_pos (fun z => h21 z.2)
      refine V_bipush (pc := 24) dX7_seen_24 (by decide) ?_
      refine V_ireturn (pc := 26) dX7_seen_26 rfl rfl (fun hR => ?_)
      have h2 := hK σ (by rw [e]; exact h) Gm_.rf
      rw [e] at h2
      exact h2
theorem ct_X7_back (h : MR_ a σ) (hA2 : AW_ (nx_back a).2) (hK : ∀ τ, MR_ (nx_back a).2 τ → Gm_ σ τ → post (some (vi_ (nx_back a).1)) τ) : V_ l D mX7_back (CM_ D mX7_back post) 0 [some (vr_ 38)] [] σ := by
  have h3 := h.2.2.1
  have hL := h.2.2.2.1
  have hLW : 0 ≤ a 5 0 ∧ a 5 0 ≤ 12 := h.1.2.2.2.1.1
  refine V_aload_n (pc := 0) dX7_back_0 rfl rfl ?_
  refine V_geti (pc := 1) dX7_back_1 fX7_169 rfl gg_38 rfl (fun r1 => ?_)
  rw [hL.1] at r1 ⊢
  refine V_if_ne (tgt := 10) (pc := 4) dX7_back_4 (by decide) (by first | assumption | exact b2_rg | decide | (constructor <;> omega)) (fun h4 => ?_) (fun h4 => ?_)
  · skip
    have e : nx_back a = (a 5 0 - 1, ms_ a 5 0 (a 5 0 - 1)) := if_neg h4
    rw [e] at hA2
    refine V_aload_n (pc := 10) dX7_back_10 rfl rfl ?_
    refine V_dup (pc := 11) dX7_back_11 rfl ?_
    refine V_geti (pc := 12) dX7_back_12 fX7_169 rfl gg_38 rfl (fun r12 => ?_)
    rw [hL.1] at r12 ⊢
    refine V_iconst (pc := 15) dX7_back_15 ?_
    refine V_isub (pc := 16) dX7_back_16 ?_
    refine V_puti (pc := 17) dX7_back_17 fX7_169 rfl gg_38 rfl pq_7_13 rfl rfl (by first | assumption | exact b2_rg | decide | (constructor <;> omega)) ?_
    refine V_aload_n (pc := 20) dX7_back_20 rfl rfl ?_
    refine V_geti (pc := 21) dX7_back_21 fX7_169 rfl gg_38 rfl (fun r21 => ?_)
    rw [ms_eq] at r21 ⊢
    refine V_ireturn (pc := 24) dX7_back_24 rfl rfl (fun hR => ?_)
    have hM2 : MR_ (ms_ a 5 0 (a 5 0 - 1)) (ms_ σ 38 13 (a 5 0 - 1)) := by
      refine h.oth hA2 (fun q h1 h2 h3 => ms_rw h1) (fun k hk => ms_rw (by omega)) ⟨?_, ?_, ?_⟩ ?_ ?_
      · rw [ms_ne (by decide), ms_nk (by decide)]; exact h3.1
      · rw [ms_ne (by decide), ms_nk (by decide)]; exact h3.2.1
      · rw [ms_ne (by decide)]; exact h3.2.2
      · refine ⟨by rw [ms_eq, ms_eq], fun i hi => ?_⟩
        rw [ms_eq] at hi
        rw [ms_nk (by decide), ms_nk (by decide), ms_nk (by decide), ms_nk (by decide)]
        exact hL.2 i (by have := hLW; omega)
      · have h5 := h.2.2.2.2.1
        unfold MG_ at h5 ⊢
        rw [ms_ne (by decide), ms_rw (by decide), ms_rw (by decide), ms_rw (by decide), ms_rw (by decide)]; exact h5
    have h2 := hK _ (by rw [e]; exact hM2) (Gm_.rf.ms (by decide))
    rw [e] at h2
    exact h2
  · skip
    have e : nx_back a = (-3, a) := if_pos h4
    refine V_bipush (pc := 7) dX7_back_7 (by decide) ?_
    refine V_ireturn (pc := 9) dX7_back_9 rfl rfl (fun hR => ?_)
    have h2 := hK σ (by rw [e]; exact h) Gm_.rf
    rw [e] at h2
    exact h2
theorem ct_X7_forget (h : MR_ a σ) (hA2 : AW_ (nx_forget a).2) (hK : ∀ τ, MR_ (nx_forget a).2 τ → Gm_ σ τ → post (some (vi_ (nx_forget a).1)) τ) : V_ l D mX7_forget (CM_ D mX7_forget post) 0 [some (vr_ 38), none] [] σ := by
  have h3 := h.2.2.1
  have hL := h.2.2.2.2.1
  have hLW : 0 ≤ a 5 0 ∧ a 5 0 ≤ 12 := h.1.2.2.2.1.1
  have e : nx_forget a = (a 8 0, ms_ a 8 0 0) := rfl
  rw [e] at hA2
  refine V_aload_n (pc := 0) dX7_forget_0 rfl rfl ?_
  refine V_geti (pc := 1) dX7_forget_1 fX7_236 rfl gg_38 rfl (fun r1 => ?_)
  rw [hL.1] at r1 ⊢
  refine V_istore_n (pc := 4) dX7_forget_4 rfl (by decide) rfl ?_
  show V_ _ _ _ _ _ [_, _] _ _
  refine V_aload_n (pc := 5) dX7_forget_5 rfl rfl ?_
  refine V_iconst (pc := 6) dX7_forget_6 ?_
  refine V_puti (pc := 7) dX7_forget_7 fX7_236 rfl gg_38 rfl pq_7_22 rfl rfl (by first | assumption | exact b2_rg | decide | (constructor <;> omega)) ?_
  refine V_iload_n (pc := 10) dX7_forget_10 rfl rfl ?_
  refine V_ireturn (pc := 11) dX7_forget_11 rfl rfl (fun hR => ?_)
  have hM2 : MR_ (ms_ a 8 0 0) (ms_ σ 38 22 0) := by
    refine h.oth hA2 (fun q h1 h2 h3 => ms_rw h1) (fun k hk => ms_rw (by omega)) ⟨?_, ?_, ?_⟩ ?_ ?_
    · rw [ms_ne (by decide), ms_nk (by decide)]; exact h3.1
    · rw [ms_ne (by decide), ms_nk (by decide)]; exact h3.2.1
    · rw [ms_ne (by decide)]; exact h3.2.2
    · have h5 := h.2.2.2.1
      unfold ML_ at h5 ⊢
      rw [ms_ne (by decide), ms_rw (by decide), ms_rw (by decide), ms_rw (by decide), ms_rw (by decide)]; exact h5
    · refine ⟨by rw [ms_eq, ms_eq], fun i hi => ?_⟩
      rw [ms_eq] at hi
      rw [ms_nk (by decide), ms_nk (by decide), ms_nk (by decide), ms_nk (by decide)]
      exact hL.2 i (by have := hi; omega)
  have h2 := hK _ (by rw [e]; exact hM2) (Gm_.rf.ms (by decide))
  rw [e] at h2
  exact h2
end
