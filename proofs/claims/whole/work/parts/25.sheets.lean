/-! ## class DrownedNames: sheets -/
def fd2_ (a : Mm_) (f : Int) : Int × Mm_ := (-10 - f, ms_ a 17 0 f)
def sh_ (a : Mm_) (s : Nat) (f n : Int) : Mm_ := wr_ (ms_ (ms_ a 11 s f) 12 s n) (13 + s) (fun _ => 0) 60
def nx_sheet (a : Mm_) (s f n : Int) : Int × Mm_ := if ¬ (0 ≤ s ∧ s ≤ 3) ∨ ¬ (0 ≤ f ∧ f ≤ 2) ∨ 60 < n then (-2, a) else if n < 0 then fd2_ a 5 else (n, sh_ a s.toNat f n)
def nx_lose (a : Mm_) (s : Int) : Int × Mm_ := if ¬ (0 ≤ s ∧ s ≤ 3) then (-2, a) else if a 11 s.toNat = -1 then fd2_ a 1 else (a 12 s.toNat, ms_ a 11 s.toNat (-1))
def lk_ (a : Mm_) (s : Nat) (f i : Int) : Int := if a 11 s = -1 then 1 else if a 11 s ≠ f then 3 else if 0 ≤ i ∧ i < a 12 s then 0 else 2
def nx_lay (a : Mm_) (s f i x : Int) : Int × Mm_ := if ¬ (0 ≤ s ∧ s ≤ 3) ∨ ¬ (0 ≤ f ∧ f ≤ 2) then (-2, a) else if lk_ a s.toNat f i ≠ 0 then fd2_ a (lk_ a s.toNat f i) else (1, ms_ a (13 + s.toNat) i.toNat (cu_ f x))
def nx_get (a : Mm_) (s f i : Int) : Int × Mm_ := if ¬ (0 ≤ s ∧ s ≤ 3) ∨ ¬ (0 ≤ f ∧ f ≤ 2) then (-2147483648, a) else if lk_ a s.toNat f i ≠ 0 then (-2147483648, ms_ a 17 0 (lk_ a s.toNat f i)) else (a (13 + s.toNat) i.toNat, a)
abbrev rg_ (i n z : Int) : Prop := 0 ≤ i ∧ 0 ≤ n ∧ i ≤ z ∧ n ≤ z - i
def nx_copy (a : Mm_) (s i t j n : Int) : Int × Mm_ := if ¬ (0 ≤ s ∧ s ≤ 3) ∨ ¬ (0 ≤ t ∧ t ≤ 3) then (-2, a) else if a 11 s.toNat = -1 ∨ a 11 t.toNat = -1 then fd2_ a 1 else if a 11 s.toNat ≠ a 11 t.toNat then fd2_ a 4 else
  if ¬ rg_ i n (a 12 s.toNat) ∨ ¬ rg_ j n (a 12 t.toNat) then fd2_ a 2 else (1, mc_ a (13 + s.toNat) (13 + t.toNat) i.toNat j.toNat n.toNat)
def mw_ (a : Mm_) (s : Nat) : Int := if vv_ a 3 0 < a 12 s then vv_ a 3 0 else a 12 s
def nx_write (a : Mm_) (y s : Int) : Int × Mm_ := if ¬ (0 ≤ y ∧ y ≤ 29) ∨ ¬ (0 ≤ s ∧ s ≤ 3) then (-2, a) else if a 11 s.toNat = -1 then fd2_ a 1 else (mw_ a s.toNat, wr_ a (13 + s.toNat) (fun k => cu_ (a 11 s.toNat) (lv2_ a y 0 k)) (mw_ a s.toNat).toNat)
def rs_ (a : Mm_) (s : Nat) (c : Nat) : Prop := 2 * (c : Int) + 1 < a 12 s ∧ a 5 0 < 12 ∧ (0 ≤ a (13 + s) (2 * c) ∧ a (13 + s) (2 * c) ≤ 29) ∧ (0 ≤ a (13 + s) (2 * c + 1) ∧ a (13 + s) (2 * c + 1) ≤ 5)
noncomputable def rd_ (s : Nat) : Nat → Nat → Mm_ → Nat × Mm_
  | 0, c, a => (c, a)
  | n + 1, c, a => if b2_ (rs_ a s c) = 1 then rd_ s n (c + 1) (ap_ a (a (13 + s) (2 * c)) (a (13 + s) (2 * c + 1))) else (c, a)
noncomputable def nx_read (a : Mm_) (s : Int) : Int × Mm_ := if ¬ (0 ≤ s ∧ s ≤ 3) then (-2, a) else if a 11 s.toNat = -1 then fd2_ a 1 else (((rd_ s.toNat 13 0 a).1 : Int), (rd_ s.toNat 13 0 a).2)
def an_count (a : Mm_) (w : Int) : Int := if w = 0 then vv_ a 0 0 else if w = 1 then vv_ a 3 0 else if w = 2 then vv_ a 7 0 else if w = 3 then a 0 0 else if w = 4 then a 0 1 else if w = 5 then a 0 2 else if w = 6 then a 5 0 else if w = 7 then a 8 0 else if w = 8 then a 17 0 else -2
/-- a change of one sheet alone -/
theorem CR_.sht {a a' σ σ' : Mm_} {s k : Nat} (hk : k = 11 + 2 * s) (hs : s < 4) (h : CR_ a σ) (hA : (∀ t, t < 4 → (-1 ≤ a' 11 t ∧ a' 11 t ≤ 2) ∧ (0 ≤ a' 12 t ∧ a' 12 t ≤ 60)) ∧ RM_ a') (e : ∀ q, q ≠ k → q ≠ k + 1 → σ' q = σ q) (ea : ∀ q, q ≠ 11 → q ≠ 12 → q ≠ 13 + s → a' q = a q) (ea2 : ∀ t, t ≠ s → a' 11 t = a 11 t ∧ a' 12 t = a 12 t) (h1 : S1_ a' σ' s k) : CR_ a' σ' := by
  obtain ⟨⟨q1, h2, h3, h4, h5, h6⟩, h7, h8⟩ := h
  have ev : vv_ a' = vv_ a := vv_cg (ea _ (by decide) (by decide) (by omega)) (ea _ (by decide) (by decide) (by omega)) (ea _ (by decide) (by decide) (by omega)) (ea _ (by decide) (by decide) (by omega)) (ea _ (by decide) (by decide) (by omega))
  have eu : uu_ a' = uu_ a := uu_cg (ea _ (by decide) (by decide) (by omega)) (ea _ (by decide) (by decide) (by omega)) (ea _ (by decide) (by decide) (by omega))
  have ew : ww_ a' = ww_ a := ww_cg (ea _ (by decide) (by decide) (by omega)) (ea _ (by decide) (by decide) (by omega)) (ea _ (by decide) (by decide) (by omega))
  have oth : ∀ t, t < 4 → t ≠ s → S1_ a σ t (11 + 2 * t) → S1_ a' σ' t (11 + 2 * t) := fun t ht hn z => by
    unfold S1_ at z ⊢
    rw [(ea2 t hn).1, (ea2 t hn).2, ea (13 + t) (by omega) (by omega) (by omega), e (11 + 2 * t) (by omega) (by omega), e (11 + 2 * t + 1) (by omega) (by omega)]
    exact z
  refine ⟨⟨?_, ?_, ⟨?_, ?_⟩, ?_, ?_, ?_⟩, ?_, ?_⟩
  · obtain ⟨q0, q1, q4, q5, q6, q7, q8, q9⟩ := q1
    refine ⟨?_, ?_, ?_, by rw [eu]; exact q5, by rw [ew]; exact q6, hA.1, ?_, hA.2⟩
    · rw [ea _ (by decide) (by decide) (by omega)]; exact q0
    · rw [ea 1 (by decide) (by decide) (by omega), ea 2 (by decide) (by decide) (by omega), ea 3 (by decide) (by decide) (by omega)]; exact q1
    · rw [ea _ (by decide) (by decide) (by omega)]; exact q4
    · rw [ea _ (by decide) (by decide) (by omega)]; exact q8
  · unfold TR_ at h2 ⊢
    rw [ea 0 (by decide) (by decide) (by omega), ea 1 (by decide) (by decide) (by omega), ea 2 (by decide) (by decide) (by omega), ea 3 (by decide) (by decide) (by omega), e 1 (by omega) (by omega), e 2 (by omega) (by omega), e 3 (by omega) (by omega), e 4 (by omega) (by omega), e 5 (by omega) (by omega), e 6 (by omega) (by omega)]; exact h2
  · rw [ea 4 (by decide) (by decide) (by omega), e 0 (by omega) (by omega)]; exact h3.1
  · rw [ea 17 (by decide) (by decide) (by omega), e 0 (by omega) (by omega)]; exact h3.2
  · rw [eu]; unfold LC_ at h4 ⊢; rw [e 7 (by omega) (by omega), e 8 (by omega) (by omega), e 9 (by omega) (by omega)]; exact h4
  · rw [ew]; unfold WC_ at h5 ⊢; rw [e 32 (by omega) (by omega), e 33 (by omega) (by omega), e 34 (by omega) (by omega)]; exact h5
  · subst hk
    refine ⟨?_, ?_, ?_, ?_⟩
    · by_cases c : s = 0
      · subst c; exact h1
      · exact oth 0 (by decide) (fun z => c z.symm) h6.1
    · by_cases c : s = 1
      · subst c; exact h1
      · exact oth 1 (by decide) (fun z => c z.symm) h6.2.1
    · by_cases c : s = 2
      · subst c; exact h1
      · exact oth 2 (by decide) (fun z => c z.symm) h6.2.2.1
    · by_cases c : s = 3
      · subst c; exact h1
      · exact oth 3 (by decide) (fun z => c z.symm) h6.2.2.2
  · rw [ev]; exact h7.cg (fun a b h1 h2 => by rw [e _ (by omega) (by omega)])
  · rw [ev]; exact h8.cg (fun a b h1 h2 => by rw [e _ (by omega) (by omega)])
theorem CR_.s1 {a σ : Mm_} (h : CR_ a σ) {s : Nat} (hs : s < 4) : S1_ a σ s (11 + 2 * s) := by
  have h6 := h.1.2.2.2.2.2
  match s, hs with
  | 0, _ => exact h6.1
  | 1, _ => exact h6.2.1
  | 2, _ => exact h6.2.2.1
  | 3, _ => exact h6.2.2.2
theorem mc_rw {σ : Mm_} {k0 k1 sp dp n a : Nat} (h : a ≠ k1) : mc_ σ k0 k1 sp dp n a = σ a := by funext b; simp [mc_, h]
section
variable {l : Launch} {D : Dt_} {a σ : Mm_} {post : Option Av_ → Mm_ → Prop}
theorem ct_X6_sheet_11 {f n : Int} (hf : Rg_ f) (hn : Rg_ n) (h : CR_ a σ) (hK : ∀ σ1, CR_ (nx_sheet a 0 f n).2 σ1 → Fm_ σ σ1 → post (some (vi_ (nx_sheet a 0 f n).1)) σ1) : V_ l D mX6_sheet (CM_ D mX6_sheet post) 0 [some (vr_ 0), some (vi_ 0), some (vi_ f), some (vi_ n), none] [] σ := by
  have hA := h.1.1
  have hW := vv_WF hA
  have hC := h.2.1
  have hD := h.2.2
  have ws := hW.s
  have wn := hW.n
  have wl := hW.l
  have hS : S1_ a σ 0 11 := h.s1 (s := 0) (by decide)
  have hz := hA.2.2.2.2.2.1 0 (by decide)
  have hRa := hA.2.2.2.2.2.2.2
  refine V_aload_n (pc := 0) dX6_sheet_0 rfl rfl ?_
  refine V_iload_n (pc := 1) dX6_sheet_1 rfl rfl ?_
  refine V_callV (pc := 2) (as := [_]) (rest := []) dX6_sheet_2 ⟨kX6_151, iX6_sheetAt, by decide, by decide⟩ rc_0 rfl rfl (Nat.le_of_ble_eq_true rfl) (Nat.le_of_ble_eq_true rfl) ?_
  refine ct_X6_sheetAt_11 ?_
  show V_ _ _ _ _ _ _ [_] _
  refine V_astore (pc := 5) dX6_sheet_5 (by decide) rfl ?_
  show V_ _ _ _ _ _ [_, _, _, _, _] _ _
  refine V_aload (pc := 7) dX6_sheet_7 rfl ?_
  refine V_ifnull (tgt := 25) (pc := 9) dX6_sheet_9 (by decide) (fun z => by cases z) (fun _ _ => ?_)
  refine V_iload_n (pc := 12) dX6_sheet_12 rfl rfl ?_
  refine V_callS (pc := 13) (as := [_]) (rest := []) dX6_sheet_13 ⟨kX6_251, sX6_isForm, by decide, by decide⟩ rfl rfl (Nat.le_of_ble_eq_true rfl) (Nat.le_of_ble_eq_true rfl) ?_
  refine ct_X6_isForm (by first | assumption | decide | omega | exact ba_rg hR | exact b2_rg) ?_
  show V_ _ _ _ _ _ _ [_] _
  refine V_if_eq (tgt := 25) (pc := 16) dX6_sheet_16 (by decide) (by first | assumption | decide | omega | exact ba_rg hR | exact b2_rg) (fun h16 => ?_) (fun h16 => ?_)
  · skip
    rw [b2_0] at h16
    have e : nx_sheet a 0 f n = (-2, a) := if_pos (Or.inr (Or.inl h16))
    refine V_bipush (pc := 25) dX6_sheet_25 (by decide) ?_
    refine V_ireturn (pc := 27) dX6_sheet_27 rfl rfl (fun hR => ?_)
    have h2 := hK σ (by rw [e]; exact h) Fm_.rf
    rw [e] at h2
    exact h2
  · skip
    rw [b2_n0] at h16
    refine V_iload_n (pc := 19) dX6_sheet_19 rfl rfl ?_
    refine V_bipush (pc := 20) dX6_sheet_20 (by decide) ?_
    refine V_icmp_le (tgt := 28) (pc := 22) dX6_sheet_22 (by decide) (by first | assumption | decide | omega | exact ba_rg hR | exact b2_rg) (by first | assumption | decide | omega | exact ba_rg hR | exact b2_rg) (fun h22 => ?_) (fun h22 => ?_)
    · skip
      refine V_iload_n (pc := 28) dX6_sheet_28 rfl rfl ?_
      refine V_if_ge (tgt := 38) (pc := 29) dX6_sheet_29 (by decide) (by first | assumption | decide | omega | exact ba_rg hR | exact b2_rg) (fun h29 => ?_) (fun h29 => ?_)
      · skip
        have e : nx_sheet a 0 f n = (n, sh_ a 0 f n) := by unfold nx_sheet; rw [if_neg (by omega), if_neg (by omega)]; rfl
        refine V_aload (pc := 38) dX6_sheet_38 rfl ?_
        refine V_iload_n (pc := 40) dX6_sheet_40 rfl rfl ?_
        refine V_iload_n (pc := 41) dX6_sheet_41 rfl rfl ?_
        refine V_callV (pc := 42) (as := [_, _]) (rest := []) dX6_sheet_42 ⟨kX6_254, iX4_renew, by decide, by decide⟩ rc_11 rfl rfl (Nat.le_of_ble_eq_true rfl) (Nat.le_of_ble_eq_true rfl) ?_
        refine ct_X4_renew_11 hf hn ?_
        show V_ _ _ _ _ _ _ [] _
        refine V_iload_n (pc := 45) dX6_sheet_45 rfl rfl ?_
        refine V_ireturn (pc := 46) dX6_sheet_46 rfl rfl (fun hR => ?_)
        have hcr : CR_ (sh_ a 0 f n) (ms_ (ms_ (ms_ (wr_ σ 12 (fun _ => 0) 60) 11 1 0) 11 2 f) 11 3 n) := by
          refine h.sht (s := 0) (k := 11) rfl (by decide) ⟨fun t ht => ?_, ?_⟩ (fun q q1 q2 => by rw [ms_rw q1, ms_rw q1, ms_rw q1, wr_rw q2]) (fun q q1 q2 q3 => by unfold sh_; rw [wr_rw q3, ms_rw q2, ms_rw q1]) (fun t ht => by unfold sh_; rw [wr_rw (by decide), wr_rw (by decide)]; simp [ms_, ht]) ⟨fun z => ?_, fun z => ⟨?_, ?_, ?_, fun i hi => ?_⟩⟩
          · have := hA.2.2.2.2.2.1 t ht
            unfold sh_
            by_cases c : t = 0
            · subst c; simp [ms_, wr_]; omega
            · simp [ms_, wr_, c]; omega
          · unfold sh_
            intro x y
            unfold wr_
            split
            · show Rg_ 0; decide
            · exact ((hRa.ms (by constructor <;> omega)).ms (by constructor <;> omega)) x y
          · simp [sh_, ms_, wr_] at z; omega
          · simp [ms_]
          · simp [sh_, ms_, wr_]
          · simp [sh_, ms_, wr_]
          · simp [sh_, ms_, wr_] at hi
            have hi6 : i < 60 := by omega
            simp [sh_, ms_, wr_, hi6]
        have h2 := hK _ (by rw [e]; exact hcr) ((((Fm_.rf.wr (by decide)).ms (by decide)).ms (by decide)).ms (by decide))
        rw [e] at h2
        exact h2
      · skip
        have e : nx_sheet a 0 f n = fd2_ a 5 := by unfold nx_sheet; rw [if_neg (by omega), if_pos h29]
        refine V_aload_n (pc := 32) dX6_sheet_32 rfl rfl ?_
        refine V_iconst (pc := 33) dX6_sheet_33 ?_
        refine V_callV (pc := 34) (as := [_]) (rest := []) dX6_sheet_34 ⟨kX6_159, iX6_found, by decide, by decide⟩ rc_0 rfl rfl (Nat.le_of_ble_eq_true rfl) (Nat.le_of_ble_eq_true rfl) ?_
        refine ct_X6_found (by decide) ?_
        show V_ _ _ _ _ _ _ [_] _
        refine V_ireturn (pc := 37) dX6_sheet_37 rfl rfl (fun hR => ?_)
        have h2 := hK _ (by rw [e]; exact h.found (by omega)) (Fm_.rf.ms (by decide))
        rw [e] at h2
        exact h2
    · skip
      have e : nx_sheet a 0 f n = (-2, a) := if_pos (Or.inr (Or.inr h22))
      refine V_bipush (pc := 25) dX6_sheet_25 (by decide) ?_
      refine V_ireturn (pc := 27) dX6_sheet_27 rfl rfl (fun hR => ?_)
      have h2 := hK σ (by rw [e]; exact h) Fm_.rf
      rw [e] at h2
      exact h2
theorem ct_X6_sheet_13 {f n : Int} (hf : Rg_ f) (hn : Rg_ n) (h : CR_ a σ) (hK : ∀ σ1, CR_ (nx_sheet a 1 f n).2 σ1 → Fm_ σ σ1 → post (some (vi_ (nx_sheet a 1 f n).1)) σ1) : V_ l D mX6_sheet (CM_ D mX6_sheet post) 0 [some (vr_ 0), some (vi_ 1), some (vi_ f), some (vi_ n), none] [] σ := by
  have hA := h.1.1
  have hW := vv_WF hA
  have hC := h.2.1
  have hD := h.2.2
  have ws := hW.s
  have wn := hW.n
  have wl := hW.l
  have hS : S1_ a σ 1 13 := h.s1 (s := 1) (by decide)
  have hz := hA.2.2.2.2.2.1 1 (by decide)
  have hRa := hA.2.2.2.2.2.2.2
  refine V_aload_n (pc := 0) dX6_sheet_0 rfl rfl ?_
  refine V_iload_n (pc := 1) dX6_sheet_1 rfl rfl ?_
  refine V_callV (pc := 2) (as := [_]) (rest := []) dX6_sheet_2 ⟨kX6_151, iX6_sheetAt, by decide, by decide⟩ rc_0 rfl rfl (Nat.le_of_ble_eq_true rfl) (Nat.le_of_ble_eq_true rfl) ?_
  refine ct_X6_sheetAt_13 ?_
  show V_ _ _ _ _ _ _ [_] _
  refine V_astore (pc := 5) dX6_sheet_5 (by decide) rfl ?_
  show V_ _ _ _ _ _ [_, _, _, _, _] _ _
  refine V_aload (pc := 7) dX6_sheet_7 rfl ?_
  refine V_ifnull (tgt := 25) (pc := 9) dX6_sheet_9 (by decide) (fun z => by cases z) (fun _ _ => ?_)
  refine V_iload_n (pc := 12) dX6_sheet_12 rfl rfl ?_
  refine V_callS (pc := 13) (as := [_]) (rest := []) dX6_sheet_13 ⟨kX6_251, sX6_isForm, by decide, by decide⟩ rfl rfl (Nat.le_of_ble_eq_true rfl) (Nat.le_of_ble_eq_true rfl) ?_
  refine ct_X6_isForm (by first | assumption | decide | omega | exact ba_rg hR | exact b2_rg) ?_
  show V_ _ _ _ _ _ _ [_] _
  refine V_if_eq (tgt := 25) (pc := 16) dX6_sheet_16 (by decide) (by first | assumption | decide | omega | exact ba_rg hR | exact b2_rg) (fun h16 => ?_) (fun h16 => ?_)
  · skip
    rw [b2_0] at h16
    have e : nx_sheet a 1 f n = (-2, a) := if_pos (Or.inr (Or.inl h16))
    refine V_bipush (pc := 25) dX6_sheet_25 (by decide) ?_
    refine V_ireturn (pc := 27) dX6_sheet_27 rfl rfl (fun hR => ?_)
    have h2 := hK σ (by rw [e]; exact h) Fm_.rf
    rw [e] at h2
    exact h2
  · skip
    rw [b2_n0] at h16
    refine V_iload_n (pc := 19) dX6_sheet_19 rfl rfl ?_
    refine V_bipush (pc := 20) dX6_sheet_20 (by decide) ?_
    refine V_icmp_le (tgt := 28) (pc := 22) dX6_sheet_22 (by decide) (by first | assumption | decide | omega | exact ba_rg hR | exact b2_rg) (by first | assumption | decide | omega | exact ba_rg hR | exact b2_rg) (fun h22 => ?_) (fun h22 => ?_)
    · skip
      refine V_iload_n (pc := 28) dX6_sheet_28 rfl rfl ?_
      refine V_if_ge (tgt := 38) (pc := 29) dX6_sheet_29 (by decide) (by first | assumption | decide | omega | exact ba_rg hR | exact b2_rg) (fun h29 => ?_) (fun h29 => ?_)
      · skip
        have e : nx_sheet a 1 f n = (n, sh_ a 1 f n) := by unfold nx_sheet; rw [if_neg (by omega), if_neg (by omega)]; rfl
        refine V_aload (pc := 38) dX6_sheet_38 rfl ?_
        refine V_iload_n (pc := 40) dX6_sheet_40 rfl rfl ?_
        refine V_iload_n (pc := 41) dX6_sheet_41 rfl rfl ?_
        refine V_callV (pc := 42) (as := [_, _]) (rest := []) dX6_sheet_42 ⟨kX6_254, iX4_renew, by decide, by decide⟩ rc_13 rfl rfl (Nat.le_of_ble_eq_true rfl) (Nat.le_of_ble_eq_true rfl) ?_
        refine ct_X4_renew_13 hf hn ?_
        show V_ _ _ _ _ _ _ [] _
        refine V_iload_n (pc := 45) dX6_sheet_45 rfl rfl ?_
        refine V_ireturn (pc := 46) dX6_sheet_46 rfl rfl (fun hR => ?_)
        have hcr : CR_ (sh_ a 1 f n) (ms_ (ms_ (ms_ (wr_ σ 14 (fun _ => 0) 60) 13 1 0) 13 2 f) 13 3 n) := by
          refine h.sht (s := 1) (k := 13) rfl (by decide) ⟨fun t ht => ?_, ?_⟩ (fun q q1 q2 => by rw [ms_rw q1, ms_rw q1, ms_rw q1, wr_rw q2]) (fun q q1 q2 q3 => by unfold sh_; rw [wr_rw q3, ms_rw q2, ms_rw q1]) (fun t ht => by unfold sh_; rw [wr_rw (by decide), wr_rw (by decide)]; simp [ms_, ht]) ⟨fun z => ?_, fun z => ⟨?_, ?_, ?_, fun i hi => ?_⟩⟩
          · have := hA.2.2.2.2.2.1 t ht
            unfold sh_
            by_cases c : t = 1
            · subst c; simp [ms_, wr_]; omega
            · simp [ms_, wr_, c]; omega
          · unfold sh_
            intro x y
            unfold wr_
            split
            · show Rg_ 0; decide
            · exact ((hRa.ms (by constructor <;> omega)).ms (by constructor <;> omega)) x y
          · simp [sh_, ms_, wr_] at z; omega
          · simp [ms_]
          · simp [sh_, ms_, wr_]
          · simp [sh_, ms_, wr_]
          · simp [sh_, ms_, wr_] at hi
            have hi6 : i < 60 := by omega
            simp [sh_, ms_, wr_, hi6]
        have h2 := hK _ (by rw [e]; exact hcr) ((((Fm_.rf.wr (by decide)).ms (by decide)).ms (by decide)).ms (by decide))
        rw [e] at h2
        exact h2
      · skip
        have e : nx_sheet a 1 f n = fd2_ a 5 := by unfold nx_sheet; rw [if_neg (by omega), if_pos h29]
        refine V_aload_n (pc := 32) dX6_sheet_32 rfl rfl ?_
        refine V_iconst (pc := 33) dX6_sheet_33 ?_
        refine V_callV (pc := 34) (as := [_]) (rest := []) dX6_sheet_34 ⟨kX6_159, iX6_found, by decide, by decide⟩ rc_0 rfl rfl (Nat.le_of_ble_eq_true rfl) (Nat.le_of_ble_eq_true rfl) ?_
        refine ct_X6_found (by decide) ?_
        show V_ _ _ _ _ _ _ [_] _
        refine V_ireturn (pc := 37) dX6_sheet_37 rfl rfl (fun hR => ?_)
        have h2 := hK _ (by rw [e]; exact h.found (by omega)) (Fm_.rf.ms (by decide))
        rw [e] at h2
        exact h2
    · skip
      have e : nx_sheet a 1 f n = (-2, a) := if_pos (Or.inr (Or.inr h22))
      refine V_bipush (pc := 25) dX6_sheet_25 (by decide) ?_
      refine V_ireturn (pc := 27) dX6_sheet_27 rfl rfl (fun hR => ?_)
      have h2 := hK σ (by rw [e]; exact h) Fm_.rf
      rw [e] at h2
      exact h2
theorem ct_X6_sheet_15 {f n : Int} (hf : Rg_ f) (hn : Rg_ n) (h : CR_ a σ) (hK : ∀ σ1, CR_ (nx_sheet a 2 f n).2 σ1 → Fm_ σ σ1 → post (some (vi_ (nx_sheet a 2 f n).1)) σ1) : V_ l D mX6_sheet (CM_ D mX6_sheet post) 0 [some (vr_ 0), some (vi_ 2), some (vi_ f), some (vi_ n), none] [] σ := by
  have hA := h.1.1
  have hW := vv_WF hA
  have hC := h.2.1
  have hD := h.2.2
  have ws := hW.s
  have wn := hW.n
  have wl := hW.l
  have hS : S1_ a σ 2 15 := h.s1 (s := 2) (by decide)
  have hz := hA.2.2.2.2.2.1 2 (by decide)
  have hRa := hA.2.2.2.2.2.2.2
  refine V_aload_n (pc := 0) dX6_sheet_0 rfl rfl ?_
  refine V_iload_n (pc := 1) dX6_sheet_1 rfl rfl ?_
  refine V_callV (pc := 2) (as := [_]) (rest := []) dX6_sheet_2 ⟨kX6_151, iX6_sheetAt, by decide, by decide⟩ rc_0 rfl rfl (Nat.le_of_ble_eq_true rfl) (Nat.le_of_ble_eq_true rfl) ?_
  refine ct_X6_sheetAt_15 ?_
  show V_ _ _ _ _ _ _ [_] _
  refine V_astore (pc := 5) dX6_sheet_5 (by decide) rfl ?_
  show V_ _ _ _ _ _ [_, _, _, _, _] _ _
  refine V_aload (pc := 7) dX6_sheet_7 rfl ?_
  refine V_ifnull (tgt := 25) (pc := 9) dX6_sheet_9 (by decide) (fun z => by cases z) (fun _ _ => ?_)
  refine V_iload_n (pc := 12) dX6_sheet_12 rfl rfl ?_
  refine V_callS (pc := 13) (as := [_]) (rest := []) dX6_sheet_13 ⟨kX6_251, sX6_isForm, by decide, by decide⟩ rfl rfl (Nat.le_of_ble_eq_true rfl) (Nat.le_of_ble_eq_true rfl) ?_
  refine ct_X6_isForm (by first | assumption | decide | omega | exact ba_rg hR | exact b2_rg) ?_
  show V_ _ _ _ _ _ _ [_] _
  refine V_if_eq (tgt := 25) (pc := 16) dX6_sheet_16 (by decide) (by first | assumption | decide | omega | exact ba_rg hR | exact b2_rg) (fun h16 => ?_) (fun h16 => ?_)
  · skip
    rw [b2_0] at h16
    have e : nx_sheet a 2 f n = (-2, a) := if_pos (Or.inr (Or.inl h16))
    refine V_bipush (pc := 25) dX6_sheet_25 (by decide) ?_
    refine V_ireturn (pc := 27) dX6_sheet_27 rfl rfl (fun hR => ?_)
    have h2 := hK σ (by rw [e]; exact h) Fm_.rf
    rw [e] at h2
    exact h2
  · skip
    rw [b2_n0] at h16
    refine V_iload_n (pc := 19) dX6_sheet_19 rfl rfl ?_
    refine V_bipush (pc := 20) dX6_sheet_20 (by decide) ?_
    refine V_icmp_le (tgt := 28) (pc := 22) dX6_sheet_22 (by decide) (by first | assumption | decide | omega | exact ba_rg hR | exact b2_rg) (by first | assumption | decide | omega | exact ba_rg hR | exact b2_rg) (fun h22 => ?_) (fun h22 => ?_)
    · skip
      refine V_iload_n (pc := 28) dX6_sheet_28 rfl rfl ?_
      refine V_if_ge (tgt := 38) (pc := 29) dX6_sheet_29 (by decide) (by first | assumption | decide | omega | exact ba_rg hR | exact b2_rg) (fun h29 => ?_) (fun h29 => ?_)
      · skip
        have e : nx_sheet a 2 f n = (n, sh_ a 2 f n) := by unfold nx_sheet; rw [if_neg (by omega), if_neg (by omega)]; rfl
        refine V_aload (pc := 38) dX6_sheet_38 rfl ?_
        refine V_iload_n (pc := 40) dX6_sheet_40 rfl rfl ?_
        refine V_iload_n (pc := 41) dX6_sheet_41 rfl rfl ?_
        refine V_callV (pc := 42) (as := [_, _]) (rest := []) dX6_sheet_42 ⟨kX6_254, iX4_renew, by decide, by decide⟩ rc_15 rfl rfl (Nat.le_of_ble_eq_true rfl) (Nat.le_of_ble_eq_true rfl) ?_
        refine ct_X4_renew_15 hf hn ?_
        show V_ _ _ _ _ _ _ [] _
        refine V_iload_n (pc := 45) dX6_sheet_45 rfl rfl ?_
        refine V_ireturn (pc := 46) dX6_sheet_46 rfl rfl (fun hR => ?_)
        have hcr : CR_ (sh_ a 2 f n) (ms_ (ms_ (ms_ (wr_ σ 16 (fun _ => 0) 60) 15 1 0) 15 2 f) 15 3 n) := by
          refine h.sht (s := 2) (k := 15) rfl (by decide) ⟨fun t ht => ?_, ?_⟩ (fun q q1 q2 => by rw [ms_rw q1, ms_rw q1, ms_rw q1, wr_rw q2]) (fun q q1 q2 q3 => by unfold sh_; rw [wr_rw q3, ms_rw q2, ms_rw q1]) (fun t ht => by unfold sh_; rw [wr_rw (by decide), wr_rw (by decide)]; simp [ms_, ht]) ⟨fun z => ?_, fun z => ⟨?_, ?_, ?_, fun i hi => ?_⟩⟩
          · have := hA.2.2.2.2.2.1 t ht
            unfold sh_
            by_cases c : t = 2
            · subst c; simp [ms_, wr_]; omega
            · simp [ms_, wr_, c]; omega
          · unfold sh_
            intro x y
            unfold wr_
            split
            · show Rg_ 0; decide
            · exact ((hRa.ms (by constructor <;> omega)).ms (by constructor <;> omega)) x y
          · simp [sh_, ms_, wr_] at z; omega
          · simp [ms_]
          · simp [sh_, ms_, wr_]
          · simp [sh_, ms_, wr_]
          · simp [sh_, ms_, wr_] at hi
            have hi6 : i < 60 := by omega
            simp [sh_, ms_, wr_, hi6]
        have h2 := hK _ (by rw [e]; exact hcr) ((((Fm_.rf.wr (by decide)).ms (by decide)).ms (by decide)).ms (by decide))
        rw [e] at h2
        exact h2
      · skip
        have e : nx_sheet a 2 f n = fd2_ a 5 := by unfold nx_sheet; rw [if_neg (by omega), if_pos h29]
        refine V_aload_n (pc := 32) dX6_sheet_32 rfl rfl ?_
        refine V_iconst (pc := 33) dX6_sheet_33 ?_
        refine V_callV (pc := 34) (as := [_]) (rest := []) dX6_sheet_34 ⟨kX6_159, iX6_found, by decide, by decide⟩ rc_0 rfl rfl (Nat.le_of_ble_eq_true rfl) (Nat.le_of_ble_eq_true rfl) ?_
        refine ct_X6_found (by decide) ?_
        show V_ _ _ _ _ _ _ [_] _
        refine V_ireturn (pc := 37) dX6_sheet_37 rfl rfl (fun hR => ?_)
        have h2 := hK _ (by rw [e]; exact h.found (by omega)) (Fm_.rf.ms (by decide))
        rw [e] at h2
        exact h2
    · skip
      have e : nx_sheet a 2 f n = (-2, a) := if_pos (Or.inr (Or.inr h22))
      refine V_bipush (pc := 25) dX6_sheet_25 (by decide) ?_
      refine V_ireturn (pc := 27) dX6_sheet_27 rfl rfl (fun hR => ?_)
      have h2 := hK σ (by rw [e]; exact h) Fm_.rf
      rw [e] at h2
      exact h2
theorem ct_X6_sheet_17 {f n : Int} (hf : Rg_ f) (hn : Rg_ n) (h : CR_ a σ) (hK : ∀ σ1, CR_ (nx_sheet a 3 f n).2 σ1 → Fm_ σ σ1 → post (some (vi_ (nx_sheet a 3 f n).1)) σ1) : V_ l D mX6_sheet (CM_ D mX6_sheet post) 0 [some (vr_ 0), some (vi_ 3), some (vi_ f), some (vi_ n), none] [] σ := by
  have hA := h.1.1
  have hW := vv_WF hA
  have hC := h.2.1
  have hD := h.2.2
  have ws := hW.s
  have wn := hW.n
  have wl := hW.l
  have hS : S1_ a σ 3 17 := h.s1 (s := 3) (by decide)
  have hz := hA.2.2.2.2.2.1 3 (by decide)
  have hRa := hA.2.2.2.2.2.2.2
  refine V_aload_n (pc := 0) dX6_sheet_0 rfl rfl ?_
  refine V_iload_n (pc := 1) dX6_sheet_1 rfl rfl ?_
  refine V_callV (pc := 2) (as := [_]) (rest := []) dX6_sheet_2 ⟨kX6_151, iX6_sheetAt, by decide, by decide⟩ rc_0 rfl rfl (Nat.le_of_ble_eq_true rfl) (Nat.le_of_ble_eq_true rfl) ?_
  refine ct_X6_sheetAt_17 ?_
  show V_ _ _ _ _ _ _ [_] _
  refine V_astore (pc := 5) dX6_sheet_5 (by decide) rfl ?_
  show V_ _ _ _ _ _ [_, _, _, _, _] _ _
  refine V_aload (pc := 7) dX6_sheet_7 rfl ?_
  refine V_ifnull (tgt := 25) (pc := 9) dX6_sheet_9 (by decide) (fun z => by cases z) (fun _ _ => ?_)
  refine V_iload_n (pc := 12) dX6_sheet_12 rfl rfl ?_
  refine V_callS (pc := 13) (as := [_]) (rest := []) dX6_sheet_13 ⟨kX6_251, sX6_isForm, by decide, by decide⟩ rfl rfl (Nat.le_of_ble_eq_true rfl) (Nat.le_of_ble_eq_true rfl) ?_
  refine ct_X6_isForm (by first | assumption | decide | omega | exact ba_rg hR | exact b2_rg) ?_
  show V_ _ _ _ _ _ _ [_] _
  refine V_if_eq (tgt := 25) (pc := 16) dX6_sheet_16 (by decide) (by first | assumption | decide | omega | exact ba_rg hR | exact b2_rg) (fun h16 => ?_) (fun h16 => ?_)
  · skip
    rw [b2_0] at h16
    have e : nx_sheet a 3 f n = (-2, a) := if_pos (Or.inr (Or.inl h16))
    refine V_bipush (pc := 25) dX6_sheet_25 (by decide) ?_
    refine V_ireturn (pc := 27) dX6_sheet_27 rfl rfl (fun hR => ?_)
    have h2 := hK σ (by rw [e]; exact h) Fm_.rf
    rw [e] at h2
    exact h2
  · skip
    rw [b2_n0] at h16
    refine V_iload_n (pc := 19) dX6_sheet_19 rfl rfl ?_
    refine V_bipush (pc := 20) dX6_sheet_20 (by decide) ?_
    refine V_icmp_le (tgt := 28) (pc := 22) dX6_sheet_22 (by decide) (by first | assumption | decide | omega | exact ba_rg hR | exact b2_rg) (by first | assumption | decide | omega | exact ba_rg hR | exact b2_rg) (fun h22 => ?_) (fun h22 => ?_)
    · skip
      refine V_iload_n (pc := 28) dX6_sheet_28 rfl rfl ?_
      refine V_if_ge (tgt := 38) (pc := 29) dX6_sheet_29 (by decide) (by first | assumption | decide | omega | exact ba_rg hR | exact b2_rg) (fun h29 => ?_) (fun h29 => ?_)
      · skip
        have e : nx_sheet a 3 f n = (n, sh_ a 3 f n) := by unfold nx_sheet; rw [if_neg (by omega), if_neg (by omega)]; rfl
        refine V_aload (pc := 38) dX6_sheet_38 rfl ?_
        refine V_iload_n (pc := 40) dX6_sheet_40 rfl rfl ?_
        refine V_iload_n (pc := 41) dX6_sheet_41 rfl rfl ?_
        refine V_callV (pc := 42) (as := [_, _]) (rest := []) dX6_sheet_42 ⟨kX6_254, iX4_renew, by decide, by decide⟩ rc_17 rfl rfl (Nat.le_of_ble_eq_true rfl) (Nat.le_of_ble_eq_true rfl) ?_
        refine ct_X4_renew_17 hf hn ?_
        show V_ _ _ _ _ _ _ [] _
        refine V_iload_n (pc := 45) dX6_sheet_45 rfl rfl ?_
        refine V_ireturn (pc := 46) dX6_sheet_46 rfl rfl (fun hR => ?_)
        have hcr : CR_ (sh_ a 3 f n) (ms_ (ms_ (ms_ (wr_ σ 18 (fun _ => 0) 60) 17 1 0) 17 2 f) 17 3 n) := by
          refine h.sht (s := 3) (k := 17) rfl (by decide) ⟨fun t ht => ?_, ?_⟩ (fun q q1 q2 => by rw [ms_rw q1, ms_rw q1, ms_rw q1, wr_rw q2]) (fun q q1 q2 q3 => by unfold sh_; rw [wr_rw q3, ms_rw q2, ms_rw q1]) (fun t ht => by unfold sh_; rw [wr_rw (by decide), wr_rw (by decide)]; simp [ms_, ht]) ⟨fun z => ?_, fun z => ⟨?_, ?_, ?_, fun i hi => ?_⟩⟩
          · have := hA.2.2.2.2.2.1 t ht
            unfold sh_
            by_cases c : t = 3
            · subst c; simp [ms_, wr_]; omega
            · simp [ms_, wr_, c]; omega
          · unfold sh_
            intro x y
            unfold wr_
            split
            · show Rg_ 0; decide
            · exact ((hRa.ms (by constructor <;> omega)).ms (by constructor <;> omega)) x y
          · simp [sh_, ms_, wr_] at z; omega
          · simp [ms_]
          · simp [sh_, ms_, wr_]
          · simp [sh_, ms_, wr_]
          · simp [sh_, ms_, wr_] at hi
            have hi6 : i < 60 := by omega
            simp [sh_, ms_, wr_, hi6]
        have h2 := hK _ (by rw [e]; exact hcr) ((((Fm_.rf.wr (by decide)).ms (by decide)).ms (by decide)).ms (by decide))
        rw [e] at h2
        exact h2
      · skip
        have e : nx_sheet a 3 f n = fd2_ a 5 := by unfold nx_sheet; rw [if_neg (by omega), if_pos h29]
        refine V_aload_n (pc := 32) dX6_sheet_32 rfl rfl ?_
        refine V_iconst (pc := 33) dX6_sheet_33 ?_
        refine V_callV (pc := 34) (as := [_]) (rest := []) dX6_sheet_34 ⟨kX6_159, iX6_found, by decide, by decide⟩ rc_0 rfl rfl (Nat.le_of_ble_eq_true rfl) (Nat.le_of_ble_eq_true rfl) ?_
        refine ct_X6_found (by decide) ?_
        show V_ _ _ _ _ _ _ [_] _
        refine V_ireturn (pc := 37) dX6_sheet_37 rfl rfl (fun hR => ?_)
        have h2 := hK _ (by rw [e]; exact h.found (by omega)) (Fm_.rf.ms (by decide))
        rw [e] at h2
        exact h2
    · skip
      have e : nx_sheet a 3 f n = (-2, a) := if_pos (Or.inr (Or.inr h22))
      refine V_bipush (pc := 25) dX6_sheet_25 (by decide) ?_
      refine V_ireturn (pc := 27) dX6_sheet_27 rfl rfl (fun hR => ?_)
      have h2 := hK σ (by rw [e]; exact h) Fm_.rf
      rw [e] at h2
      exact h2
theorem ct_X6_sheet {s f n : Int} (hs : Rg_ s) (hf : Rg_ f) (hn : Rg_ n) (h : CR_ a σ) (hK : ∀ σ1, CR_ (nx_sheet a s f n).2 σ1 → Fm_ σ σ1 → post (some (vi_ (nx_sheet a s f n).1)) σ1) : V_ l D mX6_sheet (CM_ D mX6_sheet post) 0 [some (vr_ 0), some (vi_ s), some (vi_ f), some (vi_ n), none] [] σ := by
  by_cases c0 : s = 0
  · subst c0; exact ct_X6_sheet_11 hf hn h hK
  by_cases c1 : s = 1
  · subst c1; exact ct_X6_sheet_13 hf hn h hK
  by_cases c2 : s = 2
  · subst c2; exact ct_X6_sheet_15 hf hn h hK
  by_cases c3 : s = 3
  · subst c3; exact ct_X6_sheet_17 hf hn h hK
  have e : nx_sheet a s f n = (-2, a) := if_pos (Or.inl (by omega))
  refine V_aload_n (pc := 0) dX6_sheet_0 rfl rfl ?_
  refine V_iload_n (pc := 1) dX6_sheet_1 rfl rfl ?_
  refine V_callV (pc := 2) (as := [_]) (rest := []) dX6_sheet_2 ⟨kX6_151, iX6_sheetAt, by decide, by decide⟩ rc_0 rfl rfl (Nat.le_of_ble_eq_true rfl) (Nat.le_of_ble_eq_true rfl) ?_
  refine ct_X6_sheetAt_n hs (by omega) ?_
  show V_ _ _ _ _ _ _ [_] _
  refine V_astore (pc := 5) dX6_sheet_5 (by decide) rfl ?_
  show V_ _ _ _ _ _ [_, _, _, _, _] _ _
  refine V_aload (pc := 7) dX6_sheet_7 rfl ?_
  refine V_ifnull (tgt := 25) (pc := 9) dX6_sheet_9 (by decide) (fun _ => ?_) (fun _ z => by cases z)
  refine V_bipush (pc := 25) dX6_sheet_25 (by decide) ?_
  refine V_ireturn (pc := 27) dX6_sheet_27 rfl rfl (fun hR => ?_)
  have h2 := hK σ (by rw [e]; exact h) Fm_.rf
  rw [e] at h2
  exact h2
theorem ct_X6_lose_11 (h : CR_ a σ) (hK : ∀ σ1, CR_ (nx_lose a 0).2 σ1 → Fm_ σ σ1 → post (some (vi_ (nx_lose a 0).1)) σ1) : V_ l D mX6_lose (CM_ D mX6_lose post) 0 [some (vr_ 0), some (vi_ 0), none] [] σ := by
  have hA := h.1.1
  have hW := vv_WF hA
  have hC := h.2.1
  have hD := h.2.2
  have ws := hW.s
  have wn := hW.n
  have wl := hW.l
  have hS : S1_ a σ 0 11 := h.s1 (s := 0) (by decide)
  have hz := hA.2.2.2.2.2.1 0 (by decide)
  have hRa := hA.2.2.2.2.2.2.2
  refine V_aload_n (pc := 0) dX6_lose_0 rfl rfl ?_
  refine V_iload_n (pc := 1) dX6_lose_1 rfl rfl ?_
  refine V_callV (pc := 2) (as := [_]) (rest := []) dX6_lose_2 ⟨kX6_151, iX6_sheetAt, by decide, by decide⟩ rc_0 rfl rfl (Nat.le_of_ble_eq_true rfl) (Nat.le_of_ble_eq_true rfl) ?_
  refine ct_X6_sheetAt_11 ?_
  show V_ _ _ _ _ _ _ [_] _
  refine V_astore_n (pc := 5) dX6_lose_5 rfl (by decide) rfl ?_
  show V_ _ _ _ _ _ [_, _, _] _ _
  refine V_aload_n (pc := 6) dX6_lose_6 rfl rfl ?_
  refine V_ifnonnull (tgt := 13) (pc := 7) dX6_lose_7 (by decide) (fun _ _ => ?_) (fun z => by cases z)
  refine V_aload_n (pc := 13) dX6_lose_13 rfl rfl ?_
  refine V_geti (pc := 14) dX6_lose_14 fX6_155 rfl gg_11 rfl (fun r14 => ?_)
  refine V_if_eq (tgt := 26) (pc := 17) dX6_lose_17 (by decide) (by first | assumption | decide | omega | exact ba_rg hR | exact b2_rg) (fun h17 => ?_) (fun h17 => ?_)
  · skip
    have c : ¬ a 11 0 = -1 := fun z => by have := hS.1 z; omega
    have e : nx_lose a 0 = (a 12 0, ms_ a 11 0 (-1)) := by unfold nx_lose; rw [if_neg (by omega), show ((0 : Int)).toNat = 0 from rfl, if_neg (show ¬ a 11 0 = -1 from c)]
    refine V_aload_n (pc := 26) dX6_lose_26 rfl rfl ?_
    refine V_iconst (pc := 27) dX6_lose_27 ?_
    refine V_puti (pc := 28) dX6_lose_28 fX6_155 rfl gg_11 rfl pq_4_1 rfl rfl (by decide) ?_
    refine V_aload_n (pc := 31) dX6_lose_31 rfl rfl ?_
    refine V_geti (pc := 32) dX6_lose_32 fX6_163 rfl gg_11 rfl (fun r32 => ?_)
    rw [show ms_ σ 11 1 1 11 3 = a 12 0 from by rw [ms_ne (by decide)]; exact (hS.2 c).2.2.1] at r32 ⊢
    refine V_ireturn (pc := 35) dX6_lose_35 rfl rfl (fun hR => ?_)
    have hcr : CR_ (ms_ a 11 0 (-1)) (ms_ σ 11 1 1) := by
      refine h.sht (s := 0) (k := 11) rfl (by decide) ⟨fun t ht => ?_, hRa.ms (by decide)⟩ (fun q q1 q2 => ms_rw q1) (fun q q1 q2 q3 => ms_rw q1) (fun t ht => by simp [ms_, ht]) ⟨fun z => by simp [ms_], fun z => by simp [ms_] at z⟩
      have := hA.2.2.2.2.2.1 t ht
      by_cases c : t = 0
      · subst c; simp [ms_]; omega
      · simp [ms_, c]; omega
    have h2 := hK _ (by rw [e]; exact hcr) (Fm_.rf.ms (by decide))
    rw [e] at h2
    exact h2
  · skip
    have c : a 11 0 = -1 := Decidable.byContradiction (fun z => h17 (hS.2 z).1)
    have e : nx_lose a 0 = fd2_ a 1 := by unfold nx_lose; rw [if_neg (by omega), show ((0 : Int)).toNat = 0 from rfl, if_pos (show a 11 0 = -1 from c)]
    refine V_aload_n (pc := 20) dX6_lose_20 rfl rfl ?_
    refine V_iconst (pc := 21) dX6_lose_21 ?_
    refine V_callV (pc := 22) (as := [_]) (rest := []) dX6_lose_22 ⟨kX6_159, iX6_found, by decide, by decide⟩ rc_0 rfl rfl (Nat.le_of_ble_eq_true rfl) (Nat.le_of_ble_eq_true rfl) ?_
    refine ct_X6_found (by decide) ?_
    show V_ _ _ _ _ _ _ [_] _
    refine V_ireturn (pc := 25) dX6_lose_25 rfl rfl (fun hR => ?_)
    have h2 := hK _ (by rw [e]; exact h.found (by omega)) (Fm_.rf.ms (by decide))
    rw [e] at h2
    exact h2
theorem ct_X6_lose_13 (h : CR_ a σ) (hK : ∀ σ1, CR_ (nx_lose a 1).2 σ1 → Fm_ σ σ1 → post (some (vi_ (nx_lose a 1).1)) σ1) : V_ l D mX6_lose (CM_ D mX6_lose post) 0 [some (vr_ 0), some (vi_ 1), none] [] σ := by
  have hA := h.1.1
  have hW := vv_WF hA
  have hC := h.2.1
  have hD := h.2.2
  have ws := hW.s
  have wn := hW.n
  have wl := hW.l
  have hS : S1_ a σ 1 13 := h.s1 (s := 1) (by decide)
  have hz := hA.2.2.2.2.2.1 1 (by decide)
  have hRa := hA.2.2.2.2.2.2.2
  refine V_aload_n (pc := 0) dX6_lose_0 rfl rfl ?_
  refine V_iload_n (pc := 1) dX6_lose_1 rfl rfl ?_
  refine V_callV (pc := 2) (as := [_]) (rest := []) dX6_lose_2 ⟨kX6_151, iX6_sheetAt, by decide, by decide⟩ rc_0 rfl rfl (Nat.le_of_ble_eq_true rfl) (Nat.le_of_ble_eq_true rfl) ?_
  refine ct_X6_sheetAt_13 ?_
  show V_ _ _ _ _ _ _ [_] _
  refine V_astore_n (pc := 5) dX6_lose_5 rfl (by decide) rfl ?_
  show V_ _ _ _ _ _ [_, _, _] _ _
  refine V_aload_n (pc := 6) dX6_lose_6 rfl rfl ?_
  refine V_ifnonnull (tgt := 13) (pc := 7) dX6_lose_7 (by decide) (fun _ _ => ?_) (fun z => by cases z)
  refine V_aload_n (pc := 13) dX6_lose_13 rfl rfl ?_
  refine V_geti (pc := 14) dX6_lose_14 fX6_155 rfl gg_13 rfl (fun r14 => ?_)
  refine V_if_eq (tgt := 26) (pc := 17) dX6_lose_17 (by decide) (by first | assumption | decide | omega | exact ba_rg hR | exact b2_rg) (fun h17 => ?_) (fun h17 => ?_)
  · skip
    have c : ¬ a 11 1 = -1 := fun z => by have := hS.1 z; omega
    have e : nx_lose a 1 = (a 12 1, ms_ a 11 1 (-1)) := by unfold nx_lose; rw [if_neg (by omega), show ((1 : Int)).toNat = 1 from rfl, if_neg (show ¬ a 11 1 = -1 from c)]
    refine V_aload_n (pc := 26) dX6_lose_26 rfl rfl ?_
    refine V_iconst (pc := 27) dX6_lose_27 ?_
    refine V_puti (pc := 28) dX6_lose_28 fX6_155 rfl gg_13 rfl pq_4_1 rfl rfl (by decide) ?_
    refine V_aload_n (pc := 31) dX6_lose_31 rfl rfl ?_
    refine V_geti (pc := 32) dX6_lose_32 fX6_163 rfl gg_13 rfl (fun r32 => ?_)
    rw [show ms_ σ 13 1 1 13 3 = a 12 1 from by rw [ms_ne (by decide)]; exact (hS.2 c).2.2.1] at r32 ⊢
    refine V_ireturn (pc := 35) dX6_lose_35 rfl rfl (fun hR => ?_)
    have hcr : CR_ (ms_ a 11 1 (-1)) (ms_ σ 13 1 1) := by
      refine h.sht (s := 1) (k := 13) rfl (by decide) ⟨fun t ht => ?_, hRa.ms (by decide)⟩ (fun q q1 q2 => ms_rw q1) (fun q q1 q2 q3 => ms_rw q1) (fun t ht => by simp [ms_, ht]) ⟨fun z => by simp [ms_], fun z => by simp [ms_] at z⟩
      have := hA.2.2.2.2.2.1 t ht
      by_cases c : t = 1
      · subst c; simp [ms_]; omega
      · simp [ms_, c]; omega
    have h2 := hK _ (by rw [e]; exact hcr) (Fm_.rf.ms (by decide))
    rw [e] at h2
    exact h2
  · skip
    have c : a 11 1 = -1 := Decidable.byContradiction (fun z => h17 (hS.2 z).1)
    have e : nx_lose a 1 = fd2_ a 1 := by unfold nx_lose; rw [if_neg (by omega), show ((1 : Int)).toNat = 1 from rfl, if_pos (show a 11 1 = -1 from c)]
    refine V_aload_n (pc := 20) dX6_lose_20 rfl rfl ?_
    refine V_iconst (pc := 21) dX6_lose_21 ?_
    refine V_callV (pc := 22) (as := [_]) (rest := []) dX6_lose_22 ⟨kX6_159, iX6_found, by decide, by decide⟩ rc_0 rfl rfl (Nat.le_of_ble_eq_true rfl) (Nat.le_of_ble_eq_true rfl) ?_
    refine ct_X6_found (by decide) ?_
    show V_ _ _ _ _ _ _ [_] _
    refine V_ireturn (pc := 25) dX6_lose_25 rfl rfl (fun hR => ?_)
    have h2 := hK _ (by rw [e]; exact h.found (by omega)) (Fm_.rf.ms (by decide))
    rw [e] at h2
    exact h2
theorem ct_X6_lose_15 (h : CR_ a σ) (hK : ∀ σ1, CR_ (nx_lose a 2).2 σ1 → Fm_ σ σ1 → post (some (vi_ (nx_lose a 2).1)) σ1) : V_ l D mX6_lose (CM_ D mX6_lose post) 0 [some (vr_ 0), some (vi_ 2), none] [] σ := by
  have hA := h.1.1
  have hW := vv_WF hA
  have hC := h.2.1
  have hD := h.2.2
  have ws := hW.s
  have wn := hW.n
  have wl := hW.l
  have hS : S1_ a σ 2 15 := h.s1 (s := 2) (by decide)
  have hz := hA.2.2.2.2.2.1 2 (by decide)
  have hRa := hA.2.2.2.2.2.2.2
  refine V_aload_n (pc := 0) dX6_lose_0 rfl rfl ?_
  refine V_iload_n (pc := 1) dX6_lose_1 rfl rfl ?_
  refine V_callV (pc := 2) (as := [_]) (rest := []) dX6_lose_2 ⟨kX6_151, iX6_sheetAt, by decide, by decide⟩ rc_0 rfl rfl (Nat.le_of_ble_eq_true rfl) (Nat.le_of_ble_eq_true rfl) ?_
  refine ct_X6_sheetAt_15 ?_
  show V_ _ _ _ _ _ _ [_] _
  refine V_astore_n (pc := 5) dX6_lose_5 rfl (by decide) rfl ?_
  show V_ _ _ _ _ _ [_, _, _] _ _
  refine V_aload_n (pc := 6) dX6_lose_6 rfl rfl ?_
  refine V_ifnonnull (tgt := 13) (pc := 7) dX6_lose_7 (by decide) (fun _ _ => ?_) (fun z => by cases z)
  refine V_aload_n (pc := 13) dX6_lose_13 rfl rfl ?_
  refine V_geti (pc := 14) dX6_lose_14 fX6_155 rfl gg_15 rfl (fun r14 => ?_)
  refine V_if_eq (tgt := 26) (pc := 17) dX6_lose_17 (by decide) (by first | assumption | decide | omega | exact ba_rg hR | exact b2_rg) (fun h17 => ?_) (fun h17 => ?_)
  · skip
    have c : ¬ a 11 2 = -1 := fun z => by have := hS.1 z; omega
    have e : nx_lose a 2 = (a 12 2, ms_ a 11 2 (-1)) := by unfold nx_lose; rw [if_neg (by omega), show ((2 : Int)).toNat = 2 from rfl, if_neg (show ¬ a 11 2 = -1 from c)]
    refine V_aload_n (pc := 26) dX6_lose_26 rfl rfl ?_
    refine V_iconst (pc := 27) dX6_lose_27 ?_
    refine V_puti (pc := 28) dX6_lose_28 fX6_155 rfl gg_15 rfl pq_4_1 rfl rfl (by decide) ?_
    refine V_aload_n (pc := 31) dX6_lose_31 rfl rfl ?_
    refine V_geti (pc := 32) dX6_lose_32 fX6_163 rfl gg_15 rfl (fun r32 => ?_)
    rw [show ms_ σ 15 1 1 15 3 = a 12 2 from by rw [ms_ne (by decide)]; exact (hS.2 c).2.2.1] at r32 ⊢
    refine V_ireturn (pc := 35) dX6_lose_35 rfl rfl (fun hR => ?_)
    have hcr : CR_ (ms_ a 11 2 (-1)) (ms_ σ 15 1 1) := by
      refine h.sht (s := 2) (k := 15) rfl (by decide) ⟨fun t ht => ?_, hRa.ms (by decide)⟩ (fun q q1 q2 => ms_rw q1) (fun q q1 q2 q3 => ms_rw q1) (fun t ht => by simp [ms_, ht]) ⟨fun z => by simp [ms_], fun z => by simp [ms_] at z⟩
      have := hA.2.2.2.2.2.1 t ht
      by_cases c : t = 2
      · subst c; simp [ms_]; omega
      · simp [ms_, c]; omega
    have h2 := hK _ (by rw [e]; exact hcr) (Fm_.rf.ms (by decide))
    rw [e] at h2
    exact h2
  · skip
    have c : a 11 2 = -1 := Decidable.byContradiction (fun z => h17 (hS.2 z).1)
    have e : nx_lose a 2 = fd2_ a 1 := by unfold nx_lose; rw [if_neg (by omega), show ((2 : Int)).toNat = 2 from rfl, if_pos (show a 11 2 = -1 from c)]
    refine V_aload_n (pc := 20) dX6_lose_20 rfl rfl ?_
    refine V_iconst (pc := 21) dX6_lose_21 ?_
    refine V_callV (pc := 22) (as := [_]) (rest := []) dX6_lose_22 ⟨kX6_159, iX6_found, by decide, by decide⟩ rc_0 rfl rfl (Nat.le_of_ble_eq_true rfl) (Nat.le_of_ble_eq_true rfl) ?_
    refine ct_X6_found (by decide) ?_
    show V_ _ _ _ _ _ _ [_] _
    refine V_ireturn (pc := 25) dX6_lose_25 rfl rfl (fun hR => ?_)
    have h2 := hK _ (by rw [e]; exact h.found (by omega)) (Fm_.rf.ms (by decide))
    rw [e] at h2
    exact h2
theorem ct_X6_lose_17 (h : CR_ a σ) (hK : ∀ σ1, CR_ (nx_lose a 3).2 σ1 → Fm_ σ σ1 → post (some (vi_ (nx_lose a 3).1)) σ1) : V_ l D mX6_lose (CM_ D mX6_lose post) 0 [some (vr_ 0), some (vi_ 3), none] [] σ := by
  have hA := h.1.1
  have hW := vv_WF hA
  have hC := h.2.1
  have hD := h.2.2
  have ws := hW.s
  have wn := hW.n
  have wl := hW.l
  have hS : S1_ a σ 3 17 := h.s1 (s := 3) (by decide)
  have hz := hA.2.2.2.2.2.1 3 (by decide)
  have hRa := hA.2.2.2.2.2.2.2
  refine V_aload_n (pc := 0) dX6_lose_0 rfl rfl ?_
  refine V_iload_n (pc := 1) dX6_lose_1 rfl rfl ?_
  refine V_callV (pc := 2) (as := [_]) (rest := []) dX6_lose_2 ⟨kX6_151, iX6_sheetAt, by decide, by decide⟩ rc_0 rfl rfl (Nat.le_of_ble_eq_true rfl) (Nat.le_of_ble_eq_true rfl) ?_
  refine ct_X6_sheetAt_17 ?_
  show V_ _ _ _ _ _ _ [_] _
  refine V_astore_n (pc := 5) dX6_lose_5 rfl (by decide) rfl ?_
  show V_ _ _ _ _ _ [_, _, _] _ _
  refine V_aload_n (pc := 6) dX6_lose_6 rfl rfl ?_
  refine V_ifnonnull (tgt := 13) (pc := 7) dX6_lose_7 (by decide) (fun _ _ => ?_) (fun z => by cases z)
  refine V_aload_n (pc := 13) dX6_lose_13 rfl rfl ?_
  refine V_geti (pc := 14) dX6_lose_14 fX6_155 rfl gg_17 rfl (fun r14 => ?_)
  refine V_if_eq (tgt := 26) (pc := 17) dX6_lose_17 (by decide) (by first | assumption | decide | omega | exact ba_rg hR | exact b2_rg) (fun h17 => ?_) (fun h17 => ?_)
  · skip
    have c : ¬ a 11 3 = -1 := fun z => by have := hS.1 z; omega
    have e : nx_lose a 3 = (a 12 3, ms_ a 11 3 (-1)) := by unfold nx_lose; rw [if_neg (by omega), show ((3 : Int)).toNat = 3 from rfl, if_neg (show ¬ a 11 3 = -1 from c)]
    refine V_aload_n (pc := 26) dX6_lose_26 rfl rfl ?_
    refine V_iconst (pc := 27) dX6_lose_27 ?_
    refine V_puti (pc := 28) dX6_lose_28 fX6_155 rfl gg_17 rfl pq_4_1 rfl rfl (by decide) ?_
    refine V_aload_n (pc := 31) dX6_lose_31 rfl rfl ?_
    refine V_geti (pc := 32) dX6_lose_32 fX6_163 rfl gg_17 rfl (fun r32 => ?_)
    rw [show ms_ σ 17 1 1 17 3 = a 12 3 from by rw [ms_ne (by decide)]; exact (hS.2 c).2.2.1] at r32 ⊢
    refine V_ireturn (pc := 35) dX6_lose_35 rfl rfl (fun hR => ?_)
    have hcr : CR_ (ms_ a 11 3 (-1)) (ms_ σ 17 1 1) := by
      refine h.sht (s := 3) (k := 17) rfl (by decide) ⟨fun t ht => ?_, hRa.ms (by decide)⟩ (fun q q1 q2 => ms_rw q1) (fun q q1 q2 q3 => ms_rw q1) (fun t ht => by simp [ms_, ht]) ⟨fun z => by simp [ms_], fun z => by simp [ms_] at z⟩
      have := hA.2.2.2.2.2.1 t ht
      by_cases c : t = 3
      · subst c; simp [ms_]; omega
      · simp [ms_, c]; omega
    have h2 := hK _ (by rw [e]; exact hcr) (Fm_.rf.ms (by decide))
    rw [e] at h2
    exact h2
  · skip
    have c : a 11 3 = -1 := Decidable.byContradiction (fun z => h17 (hS.2 z).1)
    have e : nx_lose a 3 = fd2_ a 1 := by unfold nx_lose; rw [if_neg (by omega), show ((3 : Int)).toNat = 3 from rfl, if_pos (show a 11 3 = -1 from c)]
    refine V_aload_n (pc := 20) dX6_lose_20 rfl rfl ?_
    refine V_iconst (pc := 21) dX6_lose_21 ?_
    refine V_callV (pc := 22) (as := [_]) (rest := []) dX6_lose_22 ⟨kX6_159, iX6_found, by decide, by decide⟩ rc_0 rfl rfl (Nat.le_of_ble_eq_true rfl) (Nat.le_of_ble_eq_true rfl) ?_
    refine ct_X6_found (by decide) ?_
    show V_ _ _ _ _ _ _ [_] _
    refine V_ireturn (pc := 25) dX6_lose_25 rfl rfl (fun hR => ?_)
    have h2 := hK _ (by rw [e]; exact h.found (by omega)) (Fm_.rf.ms (by decide))
    rw [e] at h2
    exact h2
theorem ct_X6_lose {s : Int} (hs : Rg_ s) (h : CR_ a σ) (hK : ∀ σ1, CR_ (nx_lose a s).2 σ1 → Fm_ σ σ1 → post (some (vi_ (nx_lose a s).1)) σ1) : V_ l D mX6_lose (CM_ D mX6_lose post) 0 [some (vr_ 0), some (vi_ s), none] [] σ := by
  by_cases c0 : s = 0
  · subst c0; exact ct_X6_lose_11  h hK
  by_cases c1 : s = 1
  · subst c1; exact ct_X6_lose_13  h hK
  by_cases c2 : s = 2
  · subst c2; exact ct_X6_lose_15  h hK
  by_cases c3 : s = 3
  · subst c3; exact ct_X6_lose_17  h hK
  have e : nx_lose a s = (-2, a) := if_pos (by omega)
  refine V_aload_n (pc := 0) dX6_lose_0 rfl rfl ?_
  refine V_iload_n (pc := 1) dX6_lose_1 rfl rfl ?_
  refine V_callV (pc := 2) (as := [_]) (rest := []) dX6_lose_2 ⟨kX6_151, iX6_sheetAt, by decide, by decide⟩ rc_0 rfl rfl (Nat.le_of_ble_eq_true rfl) (Nat.le_of_ble_eq_true rfl) ?_
  refine ct_X6_sheetAt_n hs (by omega) ?_
  show V_ _ _ _ _ _ _ [_] _
  refine V_astore_n (pc := 5) dX6_lose_5 rfl (by decide) rfl ?_
  show V_ _ _ _ _ _ [_, _, _] _ _
  refine V_aload_n (pc := 6) dX6_lose_6 rfl rfl ?_
  refine V_ifnonnull (tgt := 13) (pc := 7) dX6_lose_7 (by decide) (fun _ z => by cases z) (fun _ => ?_)
  refine V_bipush (pc := 10) dX6_lose_10 (by decide) ?_
  refine V_ireturn (pc := 12) dX6_lose_12 rfl rfl (fun hR => ?_)
  have h2 := hK σ (by rw [e]; exact h) Fm_.rf
  rw [e] at h2
  exact h2
theorem ct_X6_lay_11 {f i x : Int} (hf : Rg_ f) (hi : Rg_ i) (hx : Rg_ x) (h : CR_ a σ) (hK : ∀ σ1, CR_ (nx_lay a 0 f i x).2 σ1 → Fm_ σ σ1 → post (some (vi_ (nx_lay a 0 f i x).1)) σ1) : V_ l D mX6_lay (CM_ D mX6_lay post) 0 [some (vr_ 0), some (vi_ 0), some (vi_ f), some (vi_ i), some (vi_ x), none, none] [] σ := by
  have hA := h.1.1
  have hW := vv_WF hA
  have hC := h.2.1
  have hD := h.2.2
  have ws := hW.s
  have wn := hW.n
  have wl := hW.l
  have hS : S1_ a σ 0 11 := h.s1 (s := 0) (by decide)
  have hz := hA.2.2.2.2.2.1 0 (by decide)
  have hRa := hA.2.2.2.2.2.2.2
  refine V_aload_n (pc := 0) dX6_lay_0 rfl rfl ?_
  refine V_iload_n (pc := 1) dX6_lay_1 rfl rfl ?_
  refine V_callV (pc := 2) (as := [_]) (rest := []) dX6_lay_2 ⟨kX6_151, iX6_sheetAt, by decide, by decide⟩ rc_0 rfl rfl (Nat.le_of_ble_eq_true rfl) (Nat.le_of_ble_eq_true rfl) ?_
  refine ct_X6_sheetAt_11 ?_
  show V_ _ _ _ _ _ _ [_] _
  refine V_astore (pc := 5) dX6_lay_5 (by decide) rfl ?_
  show V_ _ _ _ _ _ [_, _, _, _, _, _, _] _ _
  refine V_aload (pc := 7) dX6_lay_7 rfl ?_
  refine V_ifnull (tgt := 19) (pc := 9) dX6_lay_9 (by decide) (fun z => by cases z) (fun _ _ => ?_)
  refine V_iload_n (pc := 12) dX6_lay_12 rfl rfl ?_
  refine V_callS (pc := 13) (as := [_]) (rest := []) dX6_lay_13 ⟨kX6_251, sX6_isForm, by decide, by decide⟩ rfl rfl (Nat.le_of_ble_eq_true rfl) (Nat.le_of_ble_eq_true rfl) ?_
  refine ct_X6_isForm (by first | assumption | decide | omega | exact ba_rg hR | exact b2_rg) ?_
  show V_ _ _ _ _ _ _ [_] _
  refine V_if_ne (tgt := 22) (pc := 16) dX6_lay_16 (by decide) (by first | assumption | decide | omega | exact ba_rg hR | exact b2_rg) (fun h16 => ?_) (fun h16 => ?_)
  · skip
    rw [b2_n0] at h16
    refine V_aload (pc := 22) dX6_lay_22 rfl ?_
    refine V_iload_n (pc := 24) dX6_lay_24 rfl rfl ?_
    refine V_iload_n (pc := 25) dX6_lay_25 rfl rfl ?_
    refine V_callV (pc := 26) (as := [_, _]) (rest := []) dX6_lay_26 ⟨kX6_257, iX4_findingAt, by decide, by decide⟩ rc_11 rfl rfl (Nat.le_of_ble_eq_true rfl) (Nat.le_of_ble_eq_true rfl) ?_
    refine ct_X4_findingAt_11 hf hi ?_
    have hlk : (if σ 11 1 ≠ 0 then (1 : Int) else if σ 11 2 ≠ f then 3 else if 0 ≤ i ∧ i < σ 11 3 then 0 else 2) = lk_ a 0 f i := by
      unfold lk_
      by_cases c : a 11 0 = -1
      · rw [if_pos c, if_pos (by rw [hS.1 c]; decide)]
      · have z := hS.2 c
        rw [if_neg c, if_neg (by rw [z.1]; decide), z.2.1, z.2.2.1]
    rw [hlk]
    have hl0 : lk_ a 0 f i = 0 ∨ (1 ≤ lk_ a 0 f i ∧ lk_ a 0 f i ≤ 3) := by unfold lk_; (repeat' split) <;> omega
    show V_ _ _ _ _ _ _ [_] _
    refine V_istore (pc := 29) dX6_lay_29 (by decide) rfl ?_
    show V_ _ _ _ _ _ [_, _, _, _, _, _, _] _ _
    refine V_iload (pc := 31) dX6_lay_31 rfl ?_
    refine V_if_eq (tgt := 43) (pc := 33) dX6_lay_33 (by decide) (by constructor <;> omega) (fun h33 => ?_) (fun h33 => ?_)
    · skip
      have hz0 : a 11 0 = f ∧ 0 ≤ i ∧ i < a 12 0 ∧ a 11 0 ≠ -1 := by
        unfold lk_ at h33
        (repeat' split at h33) <;> first | (exfalso; omega) | (refine ⟨?_, ?_, ?_, ?_⟩ <;> omega)
      obtain ⟨z0, z1, z2, z3⟩ := hz0
      obtain ⟨j, rfl⟩ := i_nat z1
      have zS := hS.2 z3
      have e : nx_lay a 0 f (j : Int) x = (1, ms_ a 13 j (cu_ f x)) := by unfold nx_lay; rw [if_neg (by omega), show ((0 : Int)).toNat = 0 from rfl, if_neg (show ¬ lk_ a 0 f (j : Int) ≠ 0 from fun z => z h33)]; rfl
      refine V_aload (pc := 43) dX6_lay_43 rfl ?_
      refine V_iload_n (pc := 45) dX6_lay_45 rfl rfl ?_
      refine V_iload (pc := 46) dX6_lay_46 rfl ?_
      refine V_callV (pc := 48) (as := [_, _]) (rest := []) dX6_lay_48 ⟨kX6_260, iX4_put, by decide, by decide⟩ rc_11 rfl rfl (Nat.le_of_ble_eq_true rfl) (Nat.le_of_ble_eq_true rfl) ?_
      refine ct_X4_put_11 zS.2.1 (by omega) zS.2.2.1 (by omega) z2 hx ?_
      show V_ _ _ _ _ _ _ [] _
      refine V_iconst (pc := 51) dX6_lay_51 ?_
      refine V_ireturn (pc := 52) dX6_lay_52 rfl rfl (fun hR => ?_)
      have hcr : CR_ (ms_ a 13 j (cu_ f x)) (ms_ σ 12 j (cu_ (a 11 0) x)) := by
        refine h.sht (s := 0) (k := 11) rfl (by decide) ⟨fun t ht => by rw [ms_rw (by decide), ms_rw (by decide)]; exact hA.2.2.2.2.2.1 t ht, hRa.ms (cu_rg hx)⟩ (fun q q1 q2 => ms_rw q2) (fun q q1 q2 q3 => ms_rw q3) (fun t ht => by rw [ms_rw (by decide), ms_rw (by decide)]; exact ⟨rfl, rfl⟩) ⟨fun z => ?_, fun z => ⟨?_, ?_, ?_, fun q hq => ?_⟩⟩
        · rw [ms_rw (by decide)] at z; exact absurd z z3
        · rw [ms_rw (by decide)]; exact zS.1
        · rw [ms_rw (by decide), ms_rw (by decide)]; exact zS.2.1
        · rw [ms_rw (by decide), ms_rw (by decide)]; exact zS.2.2.1
        · rw [ms_rw (by decide)] at hq
          rw [z0]
          have := zS.2.2.2 q hq
          by_cases c : q = j
          · subst c; show ms_ σ 12 q _ 12 q = ms_ a 13 q _ 13 q; rw [ms_eq, ms_eq]
          · show ms_ σ 12 j _ 12 q = ms_ a 13 j _ 13 q; rw [ms_ne (fun z => c z.2), ms_ne (fun z => c z.2)]; exact this
      have h2 := hK _ (by rw [e]; exact hcr) (Fm_.rf.ms (by decide))
      rw [e] at h2
      exact h2
    · skip
      have e : nx_lay a 0 f i x = fd2_ a (lk_ a 0 f i) := by unfold nx_lay; rw [if_neg (by omega), show ((0 : Int)).toNat = 0 from rfl, if_pos (show lk_ a 0 f i ≠ 0 from h33)]
      refine V_aload_n (pc := 36) dX6_lay_36 rfl rfl ?_
      refine V_iload (pc := 37) dX6_lay_37 rfl ?_
      refine V_callV (pc := 39) (as := [_]) (rest := []) dX6_lay_39 ⟨kX6_159, iX6_found, by decide, by decide⟩ rc_0 rfl rfl (Nat.le_of_ble_eq_true rfl) (Nat.le_of_ble_eq_true rfl) ?_
      refine ct_X6_found (by omega) ?_
      show V_ _ _ _ _ _ _ [_] _
      refine V_ireturn (pc := 42) dX6_lay_42 rfl rfl (fun hR => ?_)
      have h2 := hK _ (by rw [e]; exact h.found (by omega)) (Fm_.rf.ms (by decide))
      rw [e] at h2
      exact h2
  · skip
    rw [b2_0] at h16
    have e : nx_lay a 0 f i x = (-2, a) := if_pos (Or.inr h16)
    refine V_bipush (pc := 19) dX6_lay_19 (by decide) ?_
    refine V_ireturn (pc := 21) dX6_lay_21 rfl rfl (fun hR => ?_)
    have h2 := hK σ (by rw [e]; exact h) Fm_.rf
    rw [e] at h2
    exact h2
theorem ct_X6_lay_13 {f i x : Int} (hf : Rg_ f) (hi : Rg_ i) (hx : Rg_ x) (h : CR_ a σ) (hK : ∀ σ1, CR_ (nx_lay a 1 f i x).2 σ1 → Fm_ σ σ1 → post (some (vi_ (nx_lay a 1 f i x).1)) σ1) : V_ l D mX6_lay (CM_ D mX6_lay post) 0 [some (vr_ 0), some (vi_ 1), some (vi_ f), some (vi_ i), some (vi_ x), none, none] [] σ := by
  have hA := h.1.1
  have hW := vv_WF hA
  have hC := h.2.1
  have hD := h.2.2
  have ws := hW.s
  have wn := hW.n
  have wl := hW.l
  have hS : S1_ a σ 1 13 := h.s1 (s := 1) (by decide)
  have hz := hA.2.2.2.2.2.1 1 (by decide)
  have hRa := hA.2.2.2.2.2.2.2
  refine V_aload_n (pc := 0) dX6_lay_0 rfl rfl ?_
  refine V_iload_n (pc := 1) dX6_lay_1 rfl rfl ?_
  refine V_callV (pc := 2) (as := [_]) (rest := []) dX6_lay_2 ⟨kX6_151, iX6_sheetAt, by decide, by decide⟩ rc_0 rfl rfl (Nat.le_of_ble_eq_true rfl) (Nat.le_of_ble_eq_true rfl) ?_
  refine ct_X6_sheetAt_13 ?_
  show V_ _ _ _ _ _ _ [_] _
  refine V_astore (pc := 5) dX6_lay_5 (by decide) rfl ?_
  show V_ _ _ _ _ _ [_, _, _, _, _, _, _] _ _
  refine V_aload (pc := 7) dX6_lay_7 rfl ?_
  refine V_ifnull (tgt := 19) (pc := 9) dX6_lay_9 (by decide) (fun z => by cases z) (fun _ _ => ?_)
  refine V_iload_n (pc := 12) dX6_lay_12 rfl rfl ?_
  refine V_callS (pc := 13) (as := [_]) (rest := []) dX6_lay_13 ⟨kX6_251, sX6_isForm, by decide, by decide⟩ rfl rfl (Nat.le_of_ble_eq_true rfl) (Nat.le_of_ble_eq_true rfl) ?_
  refine ct_X6_isForm (by first | assumption | decide | omega | exact ba_rg hR | exact b2_rg) ?_
  show V_ _ _ _ _ _ _ [_] _
  refine V_if_ne (tgt := 22) (pc := 16) dX6_lay_16 (by decide) (by first | assumption | decide | omega | exact ba_rg hR | exact b2_rg) (fun h16 => ?_) (fun h16 => ?_)
  · skip
    rw [b2_n0] at h16
    refine V_aload (pc := 22) dX6_lay_22 rfl ?_
    refine V_iload_n (pc := 24) dX6_lay_24 rfl rfl ?_
    refine V_iload_n (pc := 25) dX6_lay_25 rfl rfl ?_
    refine V_callV (pc := 26) (as := [_, _]) (rest := []) dX6_lay_26 ⟨kX6_257, iX4_findingAt, by decide, by decide⟩ rc_13 rfl rfl (Nat.le_of_ble_eq_true rfl) (Nat.le_of_ble_eq_true rfl) ?_
    refine ct_X4_findingAt_13 hf hi ?_
    have hlk : (if σ 13 1 ≠ 0 then (1 : Int) else if σ 13 2 ≠ f then 3 else if 0 ≤ i ∧ i < σ 13 3 then 0 else 2) = lk_ a 1 f i := by
      unfold lk_
      by_cases c : a 11 1 = -1
      · rw [if_pos c, if_pos (by rw [hS.1 c]; decide)]
      · have z := hS.2 c
        rw [if_neg c, if_neg (by rw [z.1]; decide), z.2.1, z.2.2.1]
    rw [hlk]
    have hl0 : lk_ a 1 f i = 0 ∨ (1 ≤ lk_ a 1 f i ∧ lk_ a 1 f i ≤ 3) := by unfold lk_; (repeat' split) <;> omega
    show V_ _ _ _ _ _ _ [_] _
    refine V_istore (pc := 29) dX6_lay_29 (by decide) rfl ?_
    show V_ _ _ _ _ _ [_, _, _, _, _, _, _] _ _
    refine V_iload (pc := 31) dX6_lay_31 rfl ?_
    refine V_if_eq (tgt := 43) (pc := 33) dX6_lay_33 (by decide) (by constructor <;> omega) (fun h33 => ?_) (fun h33 => ?_)
    · skip
      have hz0 : a 11 1 = f ∧ 0 ≤ i ∧ i < a 12 1 ∧ a 11 1 ≠ -1 := by
        unfold lk_ at h33
        (repeat' split at h33) <;> first | (exfalso; omega) | (refine ⟨?_, ?_, ?_, ?_⟩ <;> omega)
      obtain ⟨z0, z1, z2, z3⟩ := hz0
      obtain ⟨j, rfl⟩ := i_nat z1
      have zS := hS.2 z3
      have e : nx_lay a 1 f (j : Int) x = (1, ms_ a 14 j (cu_ f x)) := by unfold nx_lay; rw [if_neg (by omega), show ((1 : Int)).toNat = 1 from rfl, if_neg (show ¬ lk_ a 1 f (j : Int) ≠ 0 from fun z => z h33)]; rfl
      refine V_aload (pc := 43) dX6_lay_43 rfl ?_
      refine V_iload_n (pc := 45) dX6_lay_45 rfl rfl ?_
      refine V_iload (pc := 46) dX6_lay_46 rfl ?_
      refine V_callV (pc := 48) (as := [_, _]) (rest := []) dX6_lay_48 ⟨kX6_260, iX4_put, by decide, by decide⟩ rc_13 rfl rfl (Nat.le_of_ble_eq_true rfl) (Nat.le_of_ble_eq_true rfl) ?_
      refine ct_X4_put_13 zS.2.1 (by omega) zS.2.2.1 (by omega) z2 hx ?_
      show V_ _ _ _ _ _ _ [] _
      refine V_iconst (pc := 51) dX6_lay_51 ?_
      refine V_ireturn (pc := 52) dX6_lay_52 rfl rfl (fun hR => ?_)
      have hcr : CR_ (ms_ a 14 j (cu_ f x)) (ms_ σ 14 j (cu_ (a 11 1) x)) := by
        refine h.sht (s := 1) (k := 13) rfl (by decide) ⟨fun t ht => by rw [ms_rw (by decide), ms_rw (by decide)]; exact hA.2.2.2.2.2.1 t ht, hRa.ms (cu_rg hx)⟩ (fun q q1 q2 => ms_rw q2) (fun q q1 q2 q3 => ms_rw q3) (fun t ht => by rw [ms_rw (by decide), ms_rw (by decide)]; exact ⟨rfl, rfl⟩) ⟨fun z => ?_, fun z => ⟨?_, ?_, ?_, fun q hq => ?_⟩⟩
        · rw [ms_rw (by decide)] at z; exact absurd z z3
        · rw [ms_rw (by decide)]; exact zS.1
        · rw [ms_rw (by decide), ms_rw (by decide)]; exact zS.2.1
        · rw [ms_rw (by decide), ms_rw (by decide)]; exact zS.2.2.1
        · rw [ms_rw (by decide)] at hq
          rw [z0]
          have := zS.2.2.2 q hq
          by_cases c : q = j
          · subst c; show ms_ σ 14 q _ 14 q = ms_ a 14 q _ 14 q; rw [ms_eq, ms_eq]
          · show ms_ σ 14 j _ 14 q = ms_ a 14 j _ 14 q; rw [ms_ne (fun z => c z.2), ms_ne (fun z => c z.2)]; exact this
      have h2 := hK _ (by rw [e]; exact hcr) (Fm_.rf.ms (by decide))
      rw [e] at h2
      exact h2
    · skip
      have e : nx_lay a 1 f i x = fd2_ a (lk_ a 1 f i) := by unfold nx_lay; rw [if_neg (by omega), show ((1 : Int)).toNat = 1 from rfl, if_pos (show lk_ a 1 f i ≠ 0 from h33)]
      refine V_aload_n (pc := 36) dX6_lay_36 rfl rfl ?_
      refine V_iload (pc := 37) dX6_lay_37 rfl ?_
      refine V_callV (pc := 39) (as := [_]) (rest := []) dX6_lay_39 ⟨kX6_159, iX6_found, by decide, by decide⟩ rc_0 rfl rfl (Nat.le_of_ble_eq_true rfl) (Nat.le_of_ble_eq_true rfl) ?_
      refine ct_X6_found (by omega) ?_
      show V_ _ _ _ _ _ _ [_] _
      refine V_ireturn (pc := 42) dX6_lay_42 rfl rfl (fun hR => ?_)
      have h2 := hK _ (by rw [e]; exact h.found (by omega)) (Fm_.rf.ms (by decide))
      rw [e] at h2
      exact h2
  · skip
    rw [b2_0] at h16
    have e : nx_lay a 1 f i x = (-2, a) := if_pos (Or.inr h16)
    refine V_bipush (pc := 19) dX6_lay_19 (by decide) ?_
    refine V_ireturn (pc := 21) dX6_lay_21 rfl rfl (fun hR => ?_)
    have h2 := hK σ (by rw [e]; exact h) Fm_.rf
    rw [e] at h2
    exact h2
theorem ct_X6_lay_15 {f i x : Int} (hf : Rg_ f) (hi : Rg_ i) (hx : Rg_ x) (h : CR_ a σ) (hK : ∀ σ1, CR_ (nx_lay a 2 f i x).2 σ1 → Fm_ σ σ1 → post (some (vi_ (nx_lay a 2 f i x).1)) σ1) : V_ l D mX6_lay (CM_ D mX6_lay post) 0 [some (vr_ 0), some (vi_ 2), some (vi_ f), some (vi_ i), some (vi_ x), none, none] [] σ := by
  have hA := h.1.1
  have hW := vv_WF hA
  have hC := h.2.1
  have hD := h.2.2
  have ws := hW.s
  have wn := hW.n
  have wl := hW.l
  have hS : S1_ a σ 2 15 := h.s1 (s := 2) (by decide)
  have hz := hA.2.2.2.2.2.1 2 (by decide)
  have hRa := hA.2.2.2.2.2.2.2
  refine V_aload_n (pc := 0) dX6_lay_0 rfl rfl ?_
  refine V_iload_n (pc := 1) dX6_lay_1 rfl rfl ?_
  refine V_callV (pc := 2) (as := [_]) (rest := []) dX6_lay_2 ⟨kX6_151, iX6_sheetAt, by decide, by decide⟩ rc_0 rfl rfl (Nat.le_of_ble_eq_true rfl) (Nat.le_of_ble_eq_true rfl) ?_
  refine ct_X6_sheetAt_15 ?_
  show V_ _ _ _ _ _ _ [_] _
  refine V_astore (pc := 5) dX6_lay_5 (by decide) rfl ?_
  show V_ _ _ _ _ _ [_, _, _, _, _, _, _] _ _
  refine V_aload (pc := 7) dX6_lay_7 rfl ?_
  refine V_ifnull (tgt := 19) (pc := 9) dX6_lay_9 (by decide) (fun z => by cases z) (fun _ _ => ?_)
  refine V_iload_n (pc := 12) dX6_lay_12 rfl rfl ?_
  refine V_callS (pc := 13) (as := [_]) (rest := []) dX6_lay_13 ⟨kX6_251, sX6_isForm, by decide, by decide⟩ rfl rfl (Nat.le_of_ble_eq_true rfl) (Nat.le_of_ble_eq_true rfl) ?_
  refine ct_X6_isForm (by first | assumption | decide | omega | exact ba_rg hR | exact b2_rg) ?_
  show V_ _ _ _ _ _ _ [_] _
  refine V_if_ne (tgt := 22) (pc := 16) dX6_lay_16 (by decide) (by first | assumption | decide | omega | exact ba_rg hR | exact b2_rg) (fun h16 => ?_) (fun h16 => ?_)
  · skip
    rw [b2_n0] at h16
    refine V_aload (pc := 22) dX6_lay_22 rfl ?_
    refine V_iload_n (pc := 24) dX6_lay_24 rfl rfl ?_
    refine V_iload_n (pc := 25) dX6_lay_25 rfl rfl ?_
    refine V_callV (pc := 26) (as := [_, _]) (rest := []) dX6_lay_26 ⟨kX6_257, iX4_findingAt, by decide, by decide⟩ rc_15 rfl rfl (Nat.le_of_ble_eq_true rfl) (Nat.le_of_ble_eq_true rfl) ?_
    refine ct_X4_findingAt_15 hf hi ?_
    have hlk : (if σ 15 1 ≠ 0 then (1 : Int) else if σ 15 2 ≠ f then 3 else if 0 ≤ i ∧ i < σ 15 3 then 0 else 2) = lk_ a 2 f i := by
      unfold lk_
      by_cases c : a 11 2 = -1
      · rw [if_pos c, if_pos (by rw [hS.1 c]; decide)]
      · have z := hS.2 c
        rw [if_neg c, if_neg (by rw [z.1]; decide), z.2.1, z.2.2.1]
    rw [hlk]
    have hl0 : lk_ a 2 f i = 0 ∨ (1 ≤ lk_ a 2 f i ∧ lk_ a 2 f i ≤ 3) := by unfold lk_; (repeat' split) <;> omega
    show V_ _ _ _ _ _ _ [_] _
    refine V_istore (pc := 29) dX6_lay_29 (by decide) rfl ?_
    show V_ _ _ _ _ _ [_, _, _, _, _, _, _] _ _
    refine V_iload (pc := 31) dX6_lay_31 rfl ?_
    refine V_if_eq (tgt := 43) (pc := 33) dX6_lay_33 (by decide) (by constructor <;> omega) (fun h33 => ?_) (fun h33 => ?_)
    · skip
      have hz0 : a 11 2 = f ∧ 0 ≤ i ∧ i < a 12 2 ∧ a 11 2 ≠ -1 := by
        unfold lk_ at h33
        (repeat' split at h33) <;> first | (exfalso; omega) | (refine ⟨?_, ?_, ?_, ?_⟩ <;> omega)
      obtain ⟨z0, z1, z2, z3⟩ := hz0
      obtain ⟨j, rfl⟩ := i_nat z1
      have zS := hS.2 z3
      have e : nx_lay a 2 f (j : Int) x = (1, ms_ a 15 j (cu_ f x)) := by unfold nx_lay; rw [if_neg (by omega), show ((2 : Int)).toNat = 2 from rfl, if_neg (show ¬ lk_ a 2 f (j : Int) ≠ 0 from fun z => z h33)]; rfl
      refine V_aload (pc := 43) dX6_lay_43 rfl ?_
      refine V_iload_n (pc := 45) dX6_lay_45 rfl rfl ?_
      refine V_iload (pc := 46) dX6_lay_46 rfl ?_
      refine V_callV (pc := 48) (as := [_, _]) (rest := []) dX6_lay_48 ⟨kX6_260, iX4_put, by decide, by decide⟩ rc_15 rfl rfl (Nat.le_of_ble_eq_true rfl) (Nat.le_of_ble_eq_true rfl) ?_
      refine ct_X4_put_15 zS.2.1 (by omega) zS.2.2.1 (by omega) z2 hx ?_
      show V_ _ _ _ _ _ _ [] _
      refine V_iconst (pc := 51) dX6_lay_51 ?_
      refine V_ireturn (pc := 52) dX6_lay_52 rfl rfl (fun hR => ?_)
      have hcr : CR_ (ms_ a 15 j (cu_ f x)) (ms_ σ 16 j (cu_ (a 11 2) x)) := by
        refine h.sht (s := 2) (k := 15) rfl (by decide) ⟨fun t ht => by rw [ms_rw (by decide), ms_rw (by decide)]; exact hA.2.2.2.2.2.1 t ht, hRa.ms (cu_rg hx)⟩ (fun q q1 q2 => ms_rw q2) (fun q q1 q2 q3 => ms_rw q3) (fun t ht => by rw [ms_rw (by decide), ms_rw (by decide)]; exact ⟨rfl, rfl⟩) ⟨fun z => ?_, fun z => ⟨?_, ?_, ?_, fun q hq => ?_⟩⟩
        · rw [ms_rw (by decide)] at z; exact absurd z z3
        · rw [ms_rw (by decide)]; exact zS.1
        · rw [ms_rw (by decide), ms_rw (by decide)]; exact zS.2.1
        · rw [ms_rw (by decide), ms_rw (by decide)]; exact zS.2.2.1
        · rw [ms_rw (by decide)] at hq
          rw [z0]
          have := zS.2.2.2 q hq
          by_cases c : q = j
          · subst c; show ms_ σ 16 q _ 16 q = ms_ a 15 q _ 15 q; rw [ms_eq, ms_eq]
          · show ms_ σ 16 j _ 16 q = ms_ a 15 j _ 15 q; rw [ms_ne (fun z => c z.2), ms_ne (fun z => c z.2)]; exact this
      have h2 := hK _ (by rw [e]; exact hcr) (Fm_.rf.ms (by decide))
      rw [e] at h2
      exact h2
    · skip
      have e : nx_lay a 2 f i x = fd2_ a (lk_ a 2 f i) := by unfold nx_lay; rw [if_neg (by omega), show ((2 : Int)).toNat = 2 from rfl, if_pos (show lk_ a 2 f i ≠ 0 from h33)]
      refine V_aload_n (pc := 36) dX6_lay_36 rfl rfl ?_
      refine V_iload (pc := 37) dX6_lay_37 rfl ?_
      refine V_callV (pc := 39) (as := [_]) (rest := []) dX6_lay_39 ⟨kX6_159, iX6_found, by decide, by decide⟩ rc_0 rfl rfl (Nat.le_of_ble_eq_true rfl) (Nat.le_of_ble_eq_true rfl) ?_
      refine ct_X6_found (by omega) ?_
      show V_ _ _ _ _ _ _ [_] _
      refine V_ireturn (pc := 42) dX6_lay_42 rfl rfl (fun hR => ?_)
      have h2 := hK _ (by rw [e]; exact h.found (by omega)) (Fm_.rf.ms (by decide))
      rw [e] at h2
      exact h2
  · skip
    rw [b2_0] at h16
    have e : nx_lay a 2 f i x = (-2, a) := if_pos (Or.inr h16)
    refine V_bipush (pc := 19) dX6_lay_19 (by decide) ?_
    refine V_ireturn (pc := 21) dX6_lay_21 rfl rfl (fun hR => ?_)
    have h2 := hK σ (by rw [e]; exact h) Fm_.rf
    rw [e] at h2
    exact h2
theorem ct_X6_lay_17 {f i x : Int} (hf : Rg_ f) (hi : Rg_ i) (hx : Rg_ x) (h : CR_ a σ) (hK : ∀ σ1, CR_ (nx_lay a 3 f i x).2 σ1 → Fm_ σ σ1 → post (some (vi_ (nx_lay a 3 f i x).1)) σ1) : V_ l D mX6_lay (CM_ D mX6_lay post) 0 [some (vr_ 0), some (vi_ 3), some (vi_ f), some (vi_ i), some (vi_ x), none, none] [] σ := by
  have hA := h.1.1
  have hW := vv_WF hA
  have hC := h.2.1
  have hD := h.2.2
  have ws := hW.s
  have wn := hW.n
  have wl := hW.l
  have hS : S1_ a σ 3 17 := h.s1 (s := 3) (by decide)
  have hz := hA.2.2.2.2.2.1 3 (by decide)
  have hRa := hA.2.2.2.2.2.2.2
  refine V_aload_n (pc := 0) dX6_lay_0 rfl rfl ?_
  refine V_iload_n (pc := 1) dX6_lay_1 rfl rfl ?_
  refine V_callV (pc := 2) (as := [_]) (rest := []) dX6_lay_2 ⟨kX6_151, iX6_sheetAt, by decide, by decide⟩ rc_0 rfl rfl (Nat.le_of_ble_eq_true rfl) (Nat.le_of_ble_eq_true rfl) ?_
  refine ct_X6_sheetAt_17 ?_
  show V_ _ _ _ _ _ _ [_] _
  refine V_astore (pc := 5) dX6_lay_5 (by decide) rfl ?_
  show V_ _ _ _ _ _ [_, _, _, _, _, _, _] _ _
  refine V_aload (pc := 7) dX6_lay_7 rfl ?_
  refine V_ifnull (tgt := 19) (pc := 9) dX6_lay_9 (by decide) (fun z => by cases z) (fun _ _ => ?_)
  refine V_iload_n (pc := 12) dX6_lay_12 rfl rfl ?_
  refine V_callS (pc := 13) (as := [_]) (rest := []) dX6_lay_13 ⟨kX6_251, sX6_isForm, by decide, by decide⟩ rfl rfl (Nat.le_of_ble_eq_true rfl) (Nat.le_of_ble_eq_true rfl) ?_
  refine ct_X6_isForm (by first | assumption | decide | omega | exact ba_rg hR | exact b2_rg) ?_
  show V_ _ _ _ _ _ _ [_] _
  refine V_if_ne (tgt := 22) (pc := 16) dX6_lay_16 (by decide) (by first | assumption | decide | omega | exact ba_rg hR | exact b2_rg) (fun h16 => ?_) (fun h16 => ?_)
  · skip
    rw [b2_n0] at h16
    refine V_aload (pc := 22) dX6_lay_22 rfl ?_
    refine V_iload_n (pc := 24) dX6_lay_24 rfl rfl ?_
    refine V_iload_n (pc := 25) dX6_lay_25 rfl rfl ?_
    refine V_callV (pc := 26) (as := [_, _]) (rest := []) dX6_lay_26 ⟨kX6_257, iX4_findingAt, by decide, by decide⟩ rc_17 rfl rfl (Nat.le_of_ble_eq_true rfl) (Nat.le_of_ble_eq_true rfl) ?_
    refine ct_X4_findingAt_17 hf hi ?_
    have hlk : (if σ 17 1 ≠ 0 then (1 : Int) else if σ 17 2 ≠ f then 3 else if 0 ≤ i ∧ i < σ 17 3 then 0 else 2) = lk_ a 3 f i := by
      unfold lk_
      by_cases c : a 11 3 = -1
      · rw [if_pos c, if_pos (by rw [hS.1 c]; decide)]
      · have z := hS.2 c
        rw [if_neg c, if_neg (by rw [z.1]; decide), z.2.1, z.2.2.1]
    rw [hlk]
    have hl0 : lk_ a 3 f i = 0 ∨ (1 ≤ lk_ a 3 f i ∧ lk_ a 3 f i ≤ 3) := by unfold lk_; (repeat' split) <;> omega
    show V_ _ _ _ _ _ _ [_] _
    refine V_istore (pc := 29) dX6_lay_29 (by decide) rfl ?_
    show V_ _ _ _ _ _ [_, _, _, _, _, _, _] _ _
    refine V_iload (pc := 31) dX6_lay_31 rfl ?_
    refine V_if_eq (tgt := 43) (pc := 33) dX6_lay_33 (by decide) (by constructor <;> omega) (fun h33 => ?_) (fun h33 => ?_)
    · skip
      have hz0 : a 11 3 = f ∧ 0 ≤ i ∧ i < a 12 3 ∧ a 11 3 ≠ -1 := by
        unfold lk_ at h33
        (repeat' split at h33) <;> first | (exfalso; omega) | (refine ⟨?_, ?_, ?_, ?_⟩ <;> omega)
      obtain ⟨z0, z1, z2, z3⟩ := hz0
      obtain ⟨j, rfl⟩ := i_nat z1
      have zS := hS.2 z3
      have e : nx_lay a 3 f (j : Int) x = (1, ms_ a 16 j (cu_ f x)) := by unfold nx_lay; rw [if_neg (by omega), show ((3 : Int)).toNat = 3 from rfl, if_neg (show ¬ lk_ a 3 f (j : Int) ≠ 0 from fun z => z h33)]; rfl
      refine V_aload (pc := 43) dX6_lay_43 rfl ?_
      refine V_iload_n (pc := 45) dX6_lay_45 rfl rfl ?_
      refine V_iload (pc := 46) dX6_lay_46 rfl ?_
      refine V_callV (pc := 48) (as := [_, _]) (rest := []) dX6_lay_48 ⟨kX6_260, iX4_put, by decide, by decide⟩ rc_17 rfl rfl (Nat.le_of_ble_eq_true rfl) (Nat.le_of_ble_eq_true rfl) ?_
      refine ct_X4_put_17 zS.2.1 (by omega) zS.2.2.1 (by omega) z2 hx ?_
      show V_ _ _ _ _ _ _ [] _
      refine V_iconst (pc := 51) dX6_lay_51 ?_
      refine V_ireturn (pc := 52) dX6_lay_52 rfl rfl (fun hR => ?_)
      have hcr : CR_ (ms_ a 16 j (cu_ f x)) (ms_ σ 18 j (cu_ (a 11 3) x)) := by
        refine h.sht (s := 3) (k := 17) rfl (by decide) ⟨fun t ht => by rw [ms_rw (by decide), ms_rw (by decide)]; exact hA.2.2.2.2.2.1 t ht, hRa.ms (cu_rg hx)⟩ (fun q q1 q2 => ms_rw q2) (fun q q1 q2 q3 => ms_rw q3) (fun t ht => by rw [ms_rw (by decide), ms_rw (by decide)]; exact ⟨rfl, rfl⟩) ⟨fun z => ?_, fun z => ⟨?_, ?_, ?_, fun q hq => ?_⟩⟩
        · rw [ms_rw (by decide)] at z; exact absurd z z3
        · rw [ms_rw (by decide)]; exact zS.1
        · rw [ms_rw (by decide), ms_rw (by decide)]; exact zS.2.1
        · rw [ms_rw (by decide), ms_rw (by decide)]; exact zS.2.2.1
        · rw [ms_rw (by decide)] at hq
          rw [z0]
          have := zS.2.2.2 q hq
          by_cases c : q = j
          · subst c; show ms_ σ 18 q _ 18 q = ms_ a 16 q _ 16 q; rw [ms_eq, ms_eq]
          · show ms_ σ 18 j _ 18 q = ms_ a 16 j _ 16 q; rw [ms_ne (fun z => c z.2), ms_ne (fun z => c z.2)]; exact this
      have h2 := hK _ (by rw [e]; exact hcr) (Fm_.rf.ms (by decide))
      rw [e] at h2
      exact h2
    · skip
      have e : nx_lay a 3 f i x = fd2_ a (lk_ a 3 f i) := by unfold nx_lay; rw [if_neg (by omega), show ((3 : Int)).toNat = 3 from rfl, if_pos (show lk_ a 3 f i ≠ 0 from h33)]
      refine V_aload_n (pc := 36) dX6_lay_36 rfl rfl ?_
      refine V_iload (pc := 37) dX6_lay_37 rfl ?_
      refine V_callV (pc := 39) (as := [_]) (rest := []) dX6_lay_39 ⟨kX6_159, iX6_found, by decide, by decide⟩ rc_0 rfl rfl (Nat.le_of_ble_eq_true rfl) (Nat.le_of_ble_eq_true rfl) ?_
      refine ct_X6_found (by omega) ?_
      show V_ _ _ _ _ _ _ [_] _
      refine V_ireturn (pc := 42) dX6_lay_42 rfl rfl (fun hR => ?_)
      have h2 := hK _ (by rw [e]; exact h.found (by omega)) (Fm_.rf.ms (by decide))
      rw [e] at h2
      exact h2
  · skip
    rw [b2_0] at h16
    have e : nx_lay a 3 f i x = (-2, a) := if_pos (Or.inr h16)
    refine V_bipush (pc := 19) dX6_lay_19 (by decide) ?_
    refine V_ireturn (pc := 21) dX6_lay_21 rfl rfl (fun hR => ?_)
    have h2 := hK σ (by rw [e]; exact h) Fm_.rf
    rw [e] at h2
    exact h2
theorem ct_X6_lay {s f i x : Int} (hs : Rg_ s) (hf : Rg_ f) (hi : Rg_ i) (hx : Rg_ x) (h : CR_ a σ) (hK : ∀ σ1, CR_ (nx_lay a s f i x).2 σ1 → Fm_ σ σ1 → post (some (vi_ (nx_lay a s f i x).1)) σ1) : V_ l D mX6_lay (CM_ D mX6_lay post) 0 [some (vr_ 0), some (vi_ s), some (vi_ f), some (vi_ i), some (vi_ x), none, none] [] σ := by
  by_cases c0 : s = 0
  · subst c0; exact ct_X6_lay_11 hf hi hx h hK
  by_cases c1 : s = 1
  · subst c1; exact ct_X6_lay_13 hf hi hx h hK
  by_cases c2 : s = 2
  · subst c2; exact ct_X6_lay_15 hf hi hx h hK
  by_cases c3 : s = 3
  · subst c3; exact ct_X6_lay_17 hf hi hx h hK
  have e : nx_lay a s f i x = (-2, a) := if_pos (Or.inl (by omega))
  refine V_aload_n (pc := 0) dX6_lay_0 rfl rfl ?_
  refine V_iload_n (pc := 1) dX6_lay_1 rfl rfl ?_
  refine V_callV (pc := 2) (as := [_]) (rest := []) dX6_lay_2 ⟨kX6_151, iX6_sheetAt, by decide, by decide⟩ rc_0 rfl rfl (Nat.le_of_ble_eq_true rfl) (Nat.le_of_ble_eq_true rfl) ?_
  refine ct_X6_sheetAt_n hs (by omega) ?_
  show V_ _ _ _ _ _ _ [_] _
  refine V_astore (pc := 5) dX6_lay_5 (by decide) rfl ?_
  show V_ _ _ _ _ _ [_, _, _, _, _, _, _] _ _
  refine V_aload (pc := 7) dX6_lay_7 rfl ?_
  refine V_ifnull (tgt := 19) (pc := 9) dX6_lay_9 (by decide) (fun _ => ?_) (fun _ z => by cases z)
  refine V_bipush (pc := 19) dX6_lay_19 (by decide) ?_
  refine V_ireturn (pc := 21) dX6_lay_21 rfl rfl (fun hR => ?_)
  have h2 := hK σ (by rw [e]; exact h) Fm_.rf
  rw [e] at h2
  exact h2
theorem ct_X6_get_11 {f i : Int} (hf : Rg_ f) (hi : Rg_ i) (h : CR_ a σ) (hK : ∀ σ1, CR_ (nx_get a 0 f i).2 σ1 → Fm_ σ σ1 → post (some (vi_ (nx_get a 0 f i).1)) σ1) : V_ l D mX6_get (CM_ D mX6_get post) 0 [some (vr_ 0), some (vi_ 0), some (vi_ f), some (vi_ i), none, none] [] σ := by
  have hA := h.1.1
  have hW := vv_WF hA
  have hC := h.2.1
  have hD := h.2.2
  have ws := hW.s
  have wn := hW.n
  have wl := hW.l
  have hS : S1_ a σ 0 11 := h.s1 (s := 0) (by decide)
  have hz := hA.2.2.2.2.2.1 0 (by decide)
  have hRa := hA.2.2.2.2.2.2.2
  refine V_aload_n (pc := 0) dX6_get_0 rfl rfl ?_
  refine V_iload_n (pc := 1) dX6_get_1 rfl rfl ?_
  refine V_callV (pc := 2) (as := [_]) (rest := []) dX6_get_2 ⟨kX6_151, iX6_sheetAt, by decide, by decide⟩ rc_0 rfl rfl (Nat.le_of_ble_eq_true rfl) (Nat.le_of_ble_eq_true rfl) ?_
  refine ct_X6_sheetAt_11 ?_
  show V_ _ _ _ _ _ _ [_] _
  refine V_astore (pc := 5) dX6_get_5 (by decide) rfl ?_
  show V_ _ _ _ _ _ [_, _, _, _, _, _] _ _
  refine V_aload (pc := 7) dX6_get_7 rfl ?_
  refine V_ifnull (tgt := 19) (pc := 9) dX6_get_9 (by decide) (fun z => by cases z) (fun _ _ => ?_)
  refine V_iload_n (pc := 12) dX6_get_12 rfl rfl ?_
  refine V_callS (pc := 13) (as := [_]) (rest := []) dX6_get_13 ⟨kX6_251, sX6_isForm, by decide, by decide⟩ rfl rfl (Nat.le_of_ble_eq_true rfl) (Nat.le_of_ble_eq_true rfl) ?_
  refine ct_X6_isForm (by first | assumption | decide | omega | exact ba_rg hR | exact b2_rg) ?_
  show V_ _ _ _ _ _ _ [_] _
  refine V_if_ne (tgt := 23) (pc := 16) dX6_get_16 (by decide) (by first | assumption | decide | omega | exact ba_rg hR | exact b2_rg) (fun h16 => ?_) (fun h16 => ?_)
  · skip
    rw [b2_n0] at h16
    refine V_aload (pc := 23) dX6_get_23 rfl ?_
    refine V_iload_n (pc := 25) dX6_get_25 rfl rfl ?_
    refine V_iload_n (pc := 26) dX6_get_26 rfl rfl ?_
    refine V_callV (pc := 27) (as := [_, _]) (rest := []) dX6_get_27 ⟨kX6_257, iX4_findingAt, by decide, by decide⟩ rc_11 rfl rfl (Nat.le_of_ble_eq_true rfl) (Nat.le_of_ble_eq_true rfl) ?_
    refine ct_X4_findingAt_11 hf hi ?_
    have hlk : (if σ 11 1 ≠ 0 then (1 : Int) else if σ 11 2 ≠ f then 3 else if 0 ≤ i ∧ i < σ 11 3 then 0 else 2) = lk_ a 0 f i := by
      unfold lk_
      by_cases c : a 11 0 = -1
      · rw [if_pos c, if_pos (by rw [hS.1 c]; decide)]
      · have z := hS.2 c
        rw [if_neg c, if_neg (by rw [z.1]; decide), z.2.1, z.2.2.1]
    rw [hlk]
    have hl0 : lk_ a 0 f i = 0 ∨ (1 ≤ lk_ a 0 f i ∧ lk_ a 0 f i ≤ 3) := by unfold lk_; (repeat' split) <;> omega
    show V_ _ _ _ _ _ _ [_] _
    refine V_istore (pc := 30) dX6_get_30 (by decide) rfl ?_
    show V_ _ _ _ _ _ [_, _, _, _, _, _] _ _
    refine V_iload (pc := 32) dX6_get_32 rfl ?_
    refine V_if_eq (tgt := 48) (pc := 34) dX6_get_34 (by decide) (by constructor <;> omega) (fun h34 => ?_) (fun h34 => ?_)
    · skip
      have hz0 : a 11 0 = f ∧ 0 ≤ i ∧ i < a 12 0 ∧ a 11 0 ≠ -1 := by
        unfold lk_ at h34
        (repeat' split at h34) <;> first | (exfalso; omega) | (refine ⟨?_, ?_, ?_, ?_⟩ <;> omega)
      obtain ⟨z0, z1, z2, z3⟩ := hz0
      obtain ⟨j, rfl⟩ := i_nat z1
      have zS := hS.2 z3
      have e : nx_get a 0 f (j : Int) = (a 13 j, a) := by unfold nx_get; rw [if_neg (by omega), show ((0 : Int)).toNat = 0 from rfl, if_neg (show ¬ lk_ a 0 f (j : Int) ≠ 0 from fun z => z h34)]; rfl
      refine V_aload (pc := 48) dX6_get_48 rfl ?_
      refine V_getr (pc := 50) dX6_get_50 fX6_164 rfl gg_11 rfl ?_
      refine V_iload_n (pc := 53) dX6_get_53 rfl rfl ?_
      refine V_ialdN (pc := 54) dX6_get_54 gg_12 (by omega) (by decide) (fun r54 => ?_)
      rw [show σ 12 j = a 13 j from zS.2.2.2 j z2] at r54 ⊢
      refine V_ireturn (pc := 55) dX6_get_55 rfl rfl (fun hR => ?_)
      have h2 := hK σ (by rw [e]; exact h) Fm_.rf
      rw [e] at h2
      exact h2
    · skip
      have e : nx_get a 0 f i = (-2147483648, ms_ a 17 0 (lk_ a 0 f i)) := by unfold nx_get; rw [if_neg (by omega), show ((0 : Int)).toNat = 0 from rfl, if_pos (show lk_ a 0 f i ≠ 0 from h34)]
      refine V_aload_n (pc := 37) dX6_get_37 rfl rfl ?_
      refine V_iload (pc := 38) dX6_get_38 rfl ?_
      refine V_callV (pc := 40) (as := [_]) (rest := []) dX6_get_40 ⟨kX6_159, iX6_found, by decide, by decide⟩ rc_0 rfl rfl (Nat.le_of_ble_eq_true rfl) (Nat.le_of_ble_eq_true rfl) ?_
      refine ct_X6_found (by omega) ?_
      show V_ _ _ _ _ _ _ [_] _
      refine V_pop (pc := 43) dX6_get_43 rfl ?_
      refine V_ldcw (v := (-2147483648)) (z := -2147483648) (pc := 44) dX6_get_44 (tb_in 680 (by decide +kernel) rfl) (by decide +kernel) ?_
      refine V_ireturn (pc := 47) dX6_get_47 rfl rfl (fun hR => ?_)
      have h2 := hK _ (by rw [e]; exact h.found (by omega)) (Fm_.rf.ms (by decide))
      rw [e] at h2
      exact h2
  · skip
    rw [b2_0] at h16
    have e : nx_get a 0 f i = (-2147483648, a) := if_pos (Or.inr h16)
    refine V_ldcw (v := (-2147483648)) (z := -2147483648) (pc := 19) dX6_get_19 (tb_in 680 (by decide +kernel) rfl) (by decide +kernel) ?_
    refine V_ireturn (pc := 22) dX6_get_22 rfl rfl (fun hR => ?_)
    have h2 := hK σ (by rw [e]; exact h) Fm_.rf
    rw [e] at h2
    exact h2
theorem ct_X6_get_13 {f i : Int} (hf : Rg_ f) (hi : Rg_ i) (h : CR_ a σ) (hK : ∀ σ1, CR_ (nx_get a 1 f i).2 σ1 → Fm_ σ σ1 → post (some (vi_ (nx_get a 1 f i).1)) σ1) : V_ l D mX6_get (CM_ D mX6_get post) 0 [some (vr_ 0), some (vi_ 1), some (vi_ f), some (vi_ i), none, none] [] σ := by
  have hA := h.1.1
  have hW := vv_WF hA
  have hC := h.2.1
  have hD := h.2.2
  have ws := hW.s
  have wn := hW.n
  have wl := hW.l
  have hS : S1_ a σ 1 13 := h.s1 (s := 1) (by decide)
  have hz := hA.2.2.2.2.2.1 1 (by decide)
  have hRa := hA.2.2.2.2.2.2.2
  refine V_aload_n (pc := 0) dX6_get_0 rfl rfl ?_
  refine V_iload_n (pc := 1) dX6_get_1 rfl rfl ?_
  refine V_callV (pc := 2) (as := [_]) (rest := []) dX6_get_2 ⟨kX6_151, iX6_sheetAt, by decide, by decide⟩ rc_0 rfl rfl (Nat.le_of_ble_eq_true rfl) (Nat.le_of_ble_eq_true rfl) ?_
  refine ct_X6_sheetAt_13 ?_
  show V_ _ _ _ _ _ _ [_] _
  refine V_astore (pc := 5) dX6_get_5 (by decide) rfl ?_
  show V_ _ _ _ _ _ [_, _, _, _, _, _] _ _
  refine V_aload (pc := 7) dX6_get_7 rfl ?_
  refine V_ifnull (tgt := 19) (pc := 9) dX6_get_9 (by decide) (fun z => by cases z) (fun _ _ => ?_)
  refine V_iload_n (pc := 12) dX6_get_12 rfl rfl ?_
  refine V_callS (pc := 13) (as := [_]) (rest := []) dX6_get_13 ⟨kX6_251, sX6_isForm, by decide, by decide⟩ rfl rfl (Nat.le_of_ble_eq_true rfl) (Nat.le_of_ble_eq_true rfl) ?_
  refine ct_X6_isForm (by first | assumption | decide | omega | exact ba_rg hR | exact b2_rg) ?_
  show V_ _ _ _ _ _ _ [_] _
  refine V_if_ne (tgt := 23) (pc := 16) dX6_get_16 (by decide) (by first | assumption | decide | omega | exact ba_rg hR | exact b2_rg) (fun h16 => ?_) (fun h16 => ?_)
  · skip
    rw [b2_n0] at h16
    refine V_aload (pc := 23) dX6_get_23 rfl ?_
    refine V_iload_n (pc := 25) dX6_get_25 rfl rfl ?_
    refine V_iload_n (pc := 26) dX6_get_26 rfl rfl ?_
    refine V_callV (pc := 27) (as := [_, _]) (rest := []) dX6_get_27 ⟨kX6_257, iX4_findingAt, by decide, by decide⟩ rc_13 rfl rfl (Nat.le_of_ble_eq_true rfl) (Nat.le_of_ble_eq_true rfl) ?_
    refine ct_X4_findingAt_13 hf hi ?_
    have hlk : (if σ 13 1 ≠ 0 then (1 : Int) else if σ 13 2 ≠ f then 3 else if 0 ≤ i ∧ i < σ 13 3 then 0 else 2) = lk_ a 1 f i := by
      unfold lk_
      by_cases c : a 11 1 = -1
      · rw [if_pos c, if_pos (by rw [hS.1 c]; decide)]
      · have z := hS.2 c
        rw [if_neg c, if_neg (by rw [z.1]; decide), z.2.1, z.2.2.1]
    rw [hlk]
    have hl0 : lk_ a 1 f i = 0 ∨ (1 ≤ lk_ a 1 f i ∧ lk_ a 1 f i ≤ 3) := by unfold lk_; (repeat' split) <;> omega
    show V_ _ _ _ _ _ _ [_] _
    refine V_istore (pc := 30) dX6_get_30 (by decide) rfl ?_
    show V_ _ _ _ _ _ [_, _, _, _, _, _] _ _
    refine V_iload (pc := 32) dX6_get_32 rfl ?_
    refine V_if_eq (tgt := 48) (pc := 34) dX6_get_34 (by decide) (by constructor <;> omega) (fun h34 => ?_) (fun h34 => ?_)
    · skip
      have hz0 : a 11 1 = f ∧ 0 ≤ i ∧ i < a 12 1 ∧ a 11 1 ≠ -1 := by
        unfold lk_ at h34
        (repeat' split at h34) <;> first | (exfalso; omega) | (refine ⟨?_, ?_, ?_, ?_⟩ <;> omega)
      obtain ⟨z0, z1, z2, z3⟩ := hz0
      obtain ⟨j, rfl⟩ := i_nat z1
      have zS := hS.2 z3
      have e : nx_get a 1 f (j : Int) = (a 14 j, a) := by unfold nx_get; rw [if_neg (by omega), show ((1 : Int)).toNat = 1 from rfl, if_neg (show ¬ lk_ a 1 f (j : Int) ≠ 0 from fun z => z h34)]; rfl
      refine V_aload (pc := 48) dX6_get_48 rfl ?_
      refine V_getr (pc := 50) dX6_get_50 fX6_164 rfl gg_13 rfl ?_
      refine V_iload_n (pc := 53) dX6_get_53 rfl rfl ?_
      refine V_ialdN (pc := 54) dX6_get_54 gg_14 (by omega) (by decide) (fun r54 => ?_)
      rw [show σ 14 j = a 14 j from zS.2.2.2 j z2] at r54 ⊢
      refine V_ireturn (pc := 55) dX6_get_55 rfl rfl (fun hR => ?_)
      have h2 := hK σ (by rw [e]; exact h) Fm_.rf
      rw [e] at h2
      exact h2
    · skip
      have e : nx_get a 1 f i = (-2147483648, ms_ a 17 0 (lk_ a 1 f i)) := by unfold nx_get; rw [if_neg (by omega), show ((1 : Int)).toNat = 1 from rfl, if_pos (show lk_ a 1 f i ≠ 0 from h34)]
      refine V_aload_n (pc := 37) dX6_get_37 rfl rfl ?_
      refine V_iload (pc := 38) dX6_get_38 rfl ?_
      refine V_callV (pc := 40) (as := [_]) (rest := []) dX6_get_40 ⟨kX6_159, iX6_found, by decide, by decide⟩ rc_0 rfl rfl (Nat.le_of_ble_eq_true rfl) (Nat.le_of_ble_eq_true rfl) ?_
      refine ct_X6_found (by omega) ?_
      show V_ _ _ _ _ _ _ [_] _
      refine V_pop (pc := 43) dX6_get_43 rfl ?_
      refine V_ldcw (v := (-2147483648)) (z := -2147483648) (pc := 44) dX6_get_44 (tb_in 680 (by decide +kernel) rfl) (by decide +kernel) ?_
      refine V_ireturn (pc := 47) dX6_get_47 rfl rfl (fun hR => ?_)
      have h2 := hK _ (by rw [e]; exact h.found (by omega)) (Fm_.rf.ms (by decide))
      rw [e] at h2
      exact h2
  · skip
    rw [b2_0] at h16
    have e : nx_get a 1 f i = (-2147483648, a) := if_pos (Or.inr h16)
    refine V_ldcw (v := (-2147483648)) (z := -2147483648) (pc := 19) dX6_get_19 (tb_in 680 (by decide +kernel) rfl) (by decide +kernel) ?_
    refine V_ireturn (pc := 22) dX6_get_22 rfl rfl (fun hR => ?_)
    have h2 := hK σ (by rw [e]; exact h) Fm_.rf
    rw [e] at h2
    exact h2
theorem ct_X6_get_15 {f i : Int} (hf : Rg_ f) (hi : Rg_ i) (h : CR_ a σ) (hK : ∀ σ1, CR_ (nx_get a 2 f i).2 σ1 → Fm_ σ σ1 → post (some (vi_ (nx_get a 2 f i).1)) σ1) : V_ l D mX6_get (CM_ D mX6_get post) 0 [some (vr_ 0), some (vi_ 2), some (vi_ f), some (vi_ i), none, none] [] σ := by
  have hA := h.1.1
  have hW := vv_WF hA
  have hC := h.2.1
  have hD := h.2.2
  have ws := hW.s
  have wn := hW.n
  have wl := hW.l
  have hS : S1_ a σ 2 15 := h.s1 (s := 2) (by decide)
  have hz := hA.2.2.2.2.2.1 2 (by decide)
  have hRa := hA.2.2.2.2.2.2.2
  refine V_aload_n (pc := 0) dX6_get_0 rfl rfl ?_
  refine V_iload_n (pc := 1) dX6_get_1 rfl rfl ?_
  refine V_callV (pc := 2) (as := [_]) (rest := []) dX6_get_2 ⟨kX6_151, iX6_sheetAt, by decide, by decide⟩ rc_0 rfl rfl (Nat.le_of_ble_eq_true rfl) (Nat.le_of_ble_eq_true rfl) ?_
  refine ct_X6_sheetAt_15 ?_
  show V_ _ _ _ _ _ _ [_] _
  refine V_astore (pc := 5) dX6_get_5 (by decide) rfl ?_
  show V_ _ _ _ _ _ [_, _, _, _, _, _] _ _
  refine V_aload (pc := 7) dX6_get_7 rfl ?_
  refine V_ifnull (tgt := 19) (pc := 9) dX6_get_9 (by decide) (fun z => by cases z) (fun _ _ => ?_)
  refine V_iload_n (pc := 12) dX6_get_12 rfl rfl ?_
  refine V_callS (pc := 13) (as := [_]) (rest := []) dX6_get_13 ⟨kX6_251, sX6_isForm, by decide, by decide⟩ rfl rfl (Nat.le_of_ble_eq_true rfl) (Nat.le_of_ble_eq_true rfl) ?_
  refine ct_X6_isForm (by first | assumption | decide | omega | exact ba_rg hR | exact b2_rg) ?_
  show V_ _ _ _ _ _ _ [_] _
  refine V_if_ne (tgt := 23) (pc := 16) dX6_get_16 (by decide) (by first | assumption | decide | omega | exact ba_rg hR | exact b2_rg) (fun h16 => ?_) (fun h16 => ?_)
  · skip
    rw [b2_n0] at h16
    refine V_aload (pc := 23) dX6_get_23 rfl ?_
    refine V_iload_n (pc := 25) dX6_get_25 rfl rfl ?_
    refine V_iload_n (pc := 26) dX6_get_26 rfl rfl ?_
    refine V_callV (pc := 27) (as := [_, _]) (rest := []) dX6_get_27 ⟨kX6_257, iX4_findingAt, by decide, by decide⟩ rc_15 rfl rfl (Nat.le_of_ble_eq_true rfl) (Nat.le_of_ble_eq_true rfl) ?_
    refine ct_X4_findingAt_15 hf hi ?_
    have hlk : (if σ 15 1 ≠ 0 then (1 : Int) else if σ 15 2 ≠ f then 3 else if 0 ≤ i ∧ i < σ 15 3 then 0 else 2) = lk_ a 2 f i := by
      unfold lk_
      by_cases c : a 11 2 = -1
      · rw [if_pos c, if_pos (by rw [hS.1 c]; decide)]
      · have z := hS.2 c
        rw [if_neg c, if_neg (by rw [z.1]; decide), z.2.1, z.2.2.1]
    rw [hlk]
    have hl0 : lk_ a 2 f i = 0 ∨ (1 ≤ lk_ a 2 f i ∧ lk_ a 2 f i ≤ 3) := by unfold lk_; (repeat' split) <;> omega
    show V_ _ _ _ _ _ _ [_] _
    refine V_istore (pc := 30) dX6_get_30 (by decide) rfl ?_
    show V_ _ _ _ _ _ [_, _, _, _, _, _] _ _
    refine V_iload (pc := 32) dX6_get_32 rfl ?_
    refine V_if_eq (tgt := 48) (pc := 34) dX6_get_34 (by decide) (by constructor <;> omega) (fun h34 => ?_) (fun h34 => ?_)
    · skip
      have hz0 : a 11 2 = f ∧ 0 ≤ i ∧ i < a 12 2 ∧ a 11 2 ≠ -1 := by
        unfold lk_ at h34
        (repeat' split at h34) <;> first | (exfalso; omega) | (refine ⟨?_, ?_, ?_, ?_⟩ <;> omega)
      obtain ⟨z0, z1, z2, z3⟩ := hz0
      obtain ⟨j, rfl⟩ := i_nat z1
      have zS := hS.2 z3
      have e : nx_get a 2 f (j : Int) = (a 15 j, a) := by unfold nx_get; rw [if_neg (by omega), show ((2 : Int)).toNat = 2 from rfl, if_neg (show ¬ lk_ a 2 f (j : Int) ≠ 0 from fun z => z h34)]; rfl
      refine V_aload (pc := 48) dX6_get_48 rfl ?_
      refine V_getr (pc := 50) dX6_get_50 fX6_164 rfl gg_15 rfl ?_
      refine V_iload_n (pc := 53) dX6_get_53 rfl rfl ?_
      refine V_ialdN (pc := 54) dX6_get_54 gg_16 (by omega) (by decide) (fun r54 => ?_)
      rw [show σ 16 j = a 15 j from zS.2.2.2 j z2] at r54 ⊢
      refine V_ireturn (pc := 55) dX6_get_55 rfl rfl (fun hR => ?_)
      have h2 := hK σ (by rw [e]; exact h) Fm_.rf
      rw [e] at h2
      exact h2
    · skip
      have e : nx_get a 2 f i = (-2147483648, ms_ a 17 0 (lk_ a 2 f i)) := by unfold nx_get; rw [if_neg (by omega), show ((2 : Int)).toNat = 2 from rfl, if_pos (show lk_ a 2 f i ≠ 0 from h34)]
      refine V_aload_n (pc := 37) dX6_get_37 rfl rfl ?_
      refine V_iload (pc := 38) dX6_get_38 rfl ?_
      refine V_callV (pc := 40) (as := [_]) (rest := []) dX6_get_40 ⟨kX6_159, iX6_found, by decide, by decide⟩ rc_0 rfl rfl (Nat.le_of_ble_eq_true rfl) (Nat.le_of_ble_eq_true rfl) ?_
      refine ct_X6_found (by omega) ?_
      show V_ _ _ _ _ _ _ [_] _
      refine V_pop (pc := 43) dX6_get_43 rfl ?_
      refine V_ldcw (v := (-2147483648)) (z := -2147483648) (pc := 44) dX6_get_44 (tb_in 680 (by decide +kernel) rfl) (by decide +kernel) ?_
      refine V_ireturn (pc := 47) dX6_get_47 rfl rfl (fun hR => ?_)
      have h2 := hK _ (by rw [e]; exact h.found (by omega)) (Fm_.rf.ms (by decide))
      rw [e] at h2
      exact h2
  · skip
    rw [b2_0] at h16
    have e : nx_get a 2 f i = (-2147483648, a) := if_pos (Or.inr h16)
    refine V_ldcw (v := (-2147483648)) (z := -2147483648) (pc := 19) dX6_get_19 (tb_in 680 (by decide +kernel) rfl) (by decide +kernel) ?_
    refine V_ireturn (pc := 22) dX6_get_22 rfl rfl (fun hR => ?_)
    have h2 := hK σ (by rw [e]; exact h) Fm_.rf
    rw [e] at h2
    exact h2
theorem ct_X6_get_17 {f i : Int} (hf : Rg_ f) (hi : Rg_ i) (h : CR_ a σ) (hK : ∀ σ1, CR_ (nx_get a 3 f i).2 σ1 → Fm_ σ σ1 → post (some (vi_ (nx_get a 3 f i).1)) σ1) : V_ l D mX6_get (CM_ D mX6_get post) 0 [some (vr_ 0), some (vi_ 3), some (vi_ f), some (vi_ i), none, none] [] σ := by
  have hA := h.1.1
  have hW := vv_WF hA
  have hC := h.2.1
  have hD := h.2.2
  have ws := hW.s
  have wn := hW.n
  have wl := hW.l
  have hS : S1_ a σ 3 17 := h.s1 (s := 3) (by decide)
  have hz := hA.2.2.2.2.2.1 3 (by decide)
  have hRa := hA.2.2.2.2.2.2.2
  refine V_aload_n (pc := 0) dX6_get_0 rfl rfl ?_
  refine V_iload_n (pc := 1) dX6_get_1 rfl rfl ?_
  refine V_callV (pc := 2) (as := [_]) (rest := []) dX6_get_2 ⟨kX6_151, iX6_sheetAt, by decide, by decide⟩ rc_0 rfl rfl (Nat.le_of_ble_eq_true rfl) (Nat.le_of_ble_eq_true rfl) ?_
  refine ct_X6_sheetAt_17 ?_
  show V_ _ _ _ _ _ _ [_] _
  refine V_astore (pc := 5) dX6_get_5 (by decide) rfl ?_
  show V_ _ _ _ _ _ [_, _, _, _, _, _] _ _
  refine V_aload (pc := 7) dX6_get_7 rfl ?_
  refine V_ifnull (tgt := 19) (pc := 9) dX6_get_9 (by decide) (fun z => by cases z) (fun _ _ => ?_)
  refine V_iload_n (pc := 12) dX6_get_12 rfl rfl ?_
  refine V_callS (pc := 13) (as := [_]) (rest := []) dX6_get_13 ⟨kX6_251, sX6_isForm, by decide, by decide⟩ rfl rfl (Nat.le_of_ble_eq_true rfl) (Nat.le_of_ble_eq_true rfl) ?_
  refine ct_X6_isForm (by first | assumption | decide | omega | exact ba_rg hR | exact b2_rg) ?_
  show V_ _ _ _ _ _ _ [_] _
  refine V_if_ne (tgt := 23) (pc := 16) dX6_get_16 (by decide) (by first | assumption | decide | omega | exact ba_rg hR | exact b2_rg) (fun h16 => ?_) (fun h16 => ?_)
  · skip
    rw [b2_n0] at h16
    refine V_aload (pc := 23) dX6_get_23 rfl ?_
    refine V_iload_n (pc := 25) dX6_get_25 rfl rfl ?_
    refine V_iload_n (pc := 26) dX6_get_26 rfl rfl ?_
    refine V_callV (pc := 27) (as := [_, _]) (rest := []) dX6_get_27 ⟨kX6_257, iX4_findingAt, by decide, by decide⟩ rc_17 rfl rfl (Nat.le_of_ble_eq_true rfl) (Nat.le_of_ble_eq_true rfl) ?_
    refine ct_X4_findingAt_17 hf hi ?_
    have hlk : (if σ 17 1 ≠ 0 then (1 : Int) else if σ 17 2 ≠ f then 3 else if 0 ≤ i ∧ i < σ 17 3 then 0 else 2) = lk_ a 3 f i := by
      unfold lk_
      by_cases c : a 11 3 = -1
      · rw [if_pos c, if_pos (by rw [hS.1 c]; decide)]
      · have z := hS.2 c
        rw [if_neg c, if_neg (by rw [z.1]; decide), z.2.1, z.2.2.1]
    rw [hlk]
    have hl0 : lk_ a 3 f i = 0 ∨ (1 ≤ lk_ a 3 f i ∧ lk_ a 3 f i ≤ 3) := by unfold lk_; (repeat' split) <;> omega
    show V_ _ _ _ _ _ _ [_] _
    refine V_istore (pc := 30) dX6_get_30 (by decide) rfl ?_
    show V_ _ _ _ _ _ [_, _, _, _, _, _] _ _
    refine V_iload (pc := 32) dX6_get_32 rfl ?_
    refine V_if_eq (tgt := 48) (pc := 34) dX6_get_34 (by decide) (by constructor <;> omega) (fun h34 => ?_) (fun h34 => ?_)
    · skip
      have hz0 : a 11 3 = f ∧ 0 ≤ i ∧ i < a 12 3 ∧ a 11 3 ≠ -1 := by
        unfold lk_ at h34
        (repeat' split at h34) <;> first | (exfalso; omega) | (refine ⟨?_, ?_, ?_, ?_⟩ <;> omega)
      obtain ⟨z0, z1, z2, z3⟩ := hz0
      obtain ⟨j, rfl⟩ := i_nat z1
      have zS := hS.2 z3
      have e : nx_get a 3 f (j : Int) = (a 16 j, a) := by unfold nx_get; rw [if_neg (by omega), show ((3 : Int)).toNat = 3 from rfl, if_neg (show ¬ lk_ a 3 f (j : Int) ≠ 0 from fun z => z h34)]; rfl
      refine V_aload (pc := 48) dX6_get_48 rfl ?_
      refine V_getr (pc := 50) dX6_get_50 fX6_164 rfl gg_17 rfl ?_
      refine V_iload_n (pc := 53) dX6_get_53 rfl rfl ?_
      refine V_ialdN (pc := 54) dX6_get_54 gg_18 (by omega) (by decide) (fun r54 => ?_)
      rw [show σ 18 j = a 16 j from zS.2.2.2 j z2] at r54 ⊢
      refine V_ireturn (pc := 55) dX6_get_55 rfl rfl (fun hR => ?_)
      have h2 := hK σ (by rw [e]; exact h) Fm_.rf
      rw [e] at h2
      exact h2
    · skip
      have e : nx_get a 3 f i = (-2147483648, ms_ a 17 0 (lk_ a 3 f i)) := by unfold nx_get; rw [if_neg (by omega), show ((3 : Int)).toNat = 3 from rfl, if_pos (show lk_ a 3 f i ≠ 0 from h34)]
      refine V_aload_n (pc := 37) dX6_get_37 rfl rfl ?_
      refine V_iload (pc := 38) dX6_get_38 rfl ?_
      refine V_callV (pc := 40) (as := [_]) (rest := []) dX6_get_40 ⟨kX6_159, iX6_found, by decide, by decide⟩ rc_0 rfl rfl (Nat.le_of_ble_eq_true rfl) (Nat.le_of_ble_eq_true rfl) ?_
      refine ct_X6_found (by omega) ?_
      show V_ _ _ _ _ _ _ [_] _
      refine V_pop (pc := 43) dX6_get_43 rfl ?_
      refine V_ldcw (v := (-2147483648)) (z := -2147483648) (pc := 44) dX6_get_44 (tb_in 680 (by decide +kernel) rfl) (by decide +kernel) ?_
      refine V_ireturn (pc := 47) dX6_get_47 rfl rfl (fun hR => ?_)
      have h2 := hK _ (by rw [e]; exact h.found (by omega)) (Fm_.rf.ms (by decide))
      rw [e] at h2
      exact h2
  · skip
    rw [b2_0] at h16
    have e : nx_get a 3 f i = (-2147483648, a) := if_pos (Or.inr h16)
    refine V_ldcw (v := (-2147483648)) (z := -2147483648) (pc := 19) dX6_get_19 (tb_in 680 (by decide +kernel) rfl) (by decide +kernel) ?_
    refine V_ireturn (pc := 22) dX6_get_22 rfl rfl (fun hR => ?_)
    have h2 := hK σ (by rw [e]; exact h) Fm_.rf
    rw [e] at h2
    exact h2
theorem ct_X6_get {s f i : Int} (hs : Rg_ s) (hf : Rg_ f) (hi : Rg_ i) (h : CR_ a σ) (hK : ∀ σ1, CR_ (nx_get a s f i).2 σ1 → Fm_ σ σ1 → post (some (vi_ (nx_get a s f i).1)) σ1) : V_ l D mX6_get (CM_ D mX6_get post) 0 [some (vr_ 0), some (vi_ s), some (vi_ f), some (vi_ i), none, none] [] σ := by
  by_cases c0 : s = 0
  · subst c0; exact ct_X6_get_11 hf hi h hK
  by_cases c1 : s = 1
  · subst c1; exact ct_X6_get_13 hf hi h hK
  by_cases c2 : s = 2
  · subst c2; exact ct_X6_get_15 hf hi h hK
  by_cases c3 : s = 3
  · subst c3; exact ct_X6_get_17 hf hi h hK
  have e : nx_get a s f i = (-2147483648, a) := if_pos (Or.inl (by omega))
  refine V_aload_n (pc := 0) dX6_get_0 rfl rfl ?_
  refine V_iload_n (pc := 1) dX6_get_1 rfl rfl ?_
  refine V_callV (pc := 2) (as := [_]) (rest := []) dX6_get_2 ⟨kX6_151, iX6_sheetAt, by decide, by decide⟩ rc_0 rfl rfl (Nat.le_of_ble_eq_true rfl) (Nat.le_of_ble_eq_true rfl) ?_
  refine ct_X6_sheetAt_n hs (by omega) ?_
  show V_ _ _ _ _ _ _ [_] _
  refine V_astore (pc := 5) dX6_get_5 (by decide) rfl ?_
  show V_ _ _ _ _ _ [_, _, _, _, _, _] _ _
  refine V_aload (pc := 7) dX6_get_7 rfl ?_
  refine V_ifnull (tgt := 19) (pc := 9) dX6_get_9 (by decide) (fun _ => ?_) (fun _ z => by cases z)
  refine V_ldcw (v := (-2147483648)) (z := -2147483648) (pc := 19) dX6_get_19 (tb_in 680 (by decide +kernel) rfl) (by decide +kernel) ?_
  refine V_ireturn (pc := 22) dX6_get_22 rfl rfl (fun hR => ?_)
  have h2 := hK σ (by rw [e]; exact h) Fm_.rf
  rw [e] at h2
  exact h2
theorem ct_X6_count {w : Int} (hw : Rg_ w) (h : CR_ a σ) (hK : ∀ σ1, CR_ a σ1 → Fm_ σ σ1 → post (some (vi_ (an_count a w))) σ1) : V_ l D mX6_count (CM_ D mX6_count post) 0 [some (vr_ 0), some (vi_ w)] [] σ := by
  have hA := h.1.1
  have hW := vv_WF hA
  have hC := h.2.1
  have hD := h.2.2
  have ws := hW.s
  have wn := hW.n
  have wl := hW.l
  have hT := h.1.2.1
  unfold TR_ at hT
  by_cases c0 : w = 0
  · subst c0
    refine V_iload_n (pc := 0) dX6_count_0 rfl rfl ?_
    refine V_tableIn (tgt := 52) (off := 51) (pc := 1) dX6_count_1 (by decide) (by decide) (by decide) (by decide) (by decide) ?_
    refine V_aload_n (pc := 52) dX6_count_52 rfl rfl ?_
    refine V_getr (pc := 53) dX6_count_53 fX6_53 rfl gg_0 rfl ?_
    refine V_geti (pc := 56) dX6_count_56 fX6_200 rfl gg_19 rfl (fun r56 => ?_)
    rw [hC.1] at r56 ⊢
    refine V_ireturn (pc := 59) dX6_count_59 rfl rfl (fun hR => ?_)
    exact rt_ (by unfold an_count; first | rfl | ((repeat' split) <;> first | rfl | (exfalso; omega))) (hK σ h (Fm_.rf))
  by_cases c1 : w = 1
  · subst c1
    refine V_iload_n (pc := 0) dX6_count_0 rfl rfl ?_
    refine V_tableIn (tgt := 60) (off := 59) (pc := 1) dX6_count_1 (by decide) (by decide) (by decide) (by decide) (by decide) ?_
    refine V_aload_n (pc := 60) dX6_count_60 rfl rfl ?_
    refine V_getr (pc := 61) dX6_count_61 fX6_53 rfl gg_0 rfl ?_
    refine V_geti (pc := 64) dX6_count_64 fX6_206 rfl gg_19 rfl (fun r64 => ?_)
    rw [hC.2.1] at r64 ⊢
    refine V_ireturn (pc := 67) dX6_count_67 rfl rfl (fun hR => ?_)
    exact rt_ (by unfold an_count; first | rfl | ((repeat' split) <;> first | rfl | (exfalso; omega))) (hK σ h (Fm_.rf))
  by_cases c2 : w = 2
  · subst c2
    refine V_iload_n (pc := 0) dX6_count_0 rfl rfl ?_
    refine V_tableIn (tgt := 68) (off := 67) (pc := 1) dX6_count_1 (by decide) (by decide) (by decide) (by decide) (by decide) ?_
    refine V_aload_n (pc := 68) dX6_count_68 rfl rfl ?_
    refine V_getr (pc := 69) dX6_count_69 fX6_53 rfl gg_0 rfl ?_
    refine V_geti (pc := 72) dX6_count_72 fX6_281 rfl gg_19 rfl (fun r72 => ?_)
    rw [hC.2.2.1] at r72 ⊢
    refine V_ireturn (pc := 75) dX6_count_75 rfl rfl (fun hR => ?_)
    exact rt_ (by unfold an_count; first | rfl | ((repeat' split) <;> first | rfl | (exfalso; omega))) (hK σ h (Fm_.rf))
  by_cases c3 : w = 3
  · subst c3
    refine V_iload_n (pc := 0) dX6_count_0 rfl rfl ?_
    refine V_tableIn (tgt := 76) (off := 75) (pc := 1) dX6_count_1 (by decide) (by decide) (by decide) (by decide) (by decide) ?_
    refine V_aload_n (pc := 76) dX6_count_76 rfl rfl ?_
    refine V_getr (pc := 77) dX6_count_77 fX6_16 rfl gg_0 rfl ?_
    refine V_geti (pc := 80) dX6_count_80 fX6_92 rfl gg_1 rfl (fun r80 => ?_)
    rw [hT.1.1] at r80 ⊢
    refine V_ireturn (pc := 83) dX6_count_83 rfl rfl (fun hR => ?_)
    exact rt_ (by unfold an_count; first | rfl | ((repeat' split) <;> first | rfl | (exfalso; omega))) (hK σ h (Fm_.rf))
  by_cases c4 : w = 4
  · subst c4
    refine V_iload_n (pc := 0) dX6_count_0 rfl rfl ?_
    refine V_tableIn (tgt := 84) (off := 83) (pc := 1) dX6_count_1 (by decide) (by decide) (by decide) (by decide) (by decide) ?_
    refine V_aload_n (pc := 84) dX6_count_84 rfl rfl ?_
    refine V_getr (pc := 85) dX6_count_85 fX6_22 rfl gg_0 rfl ?_
    refine V_geti (pc := 88) dX6_count_88 fX6_92 rfl gg_3 rfl (fun r88 => ?_)
    rw [hT.2.1.1] at r88 ⊢
    refine V_ireturn (pc := 91) dX6_count_91 rfl rfl (fun hR => ?_)
    exact rt_ (by unfold an_count; first | rfl | ((repeat' split) <;> first | rfl | (exfalso; omega))) (hK σ h (Fm_.rf))
  by_cases c5 : w = 5
  · subst c5
    refine V_iload_n (pc := 0) dX6_count_0 rfl rfl ?_
    refine V_tableIn (tgt := 92) (off := 91) (pc := 1) dX6_count_1 (by decide) (by decide) (by decide) (by decide) (by decide) ?_
    refine V_aload_n (pc := 92) dX6_count_92 rfl rfl ?_
    refine V_getr (pc := 93) dX6_count_93 fX6_27 rfl gg_0 rfl ?_
    refine V_geti (pc := 96) dX6_count_96 fX6_92 rfl gg_5 rfl (fun r96 => ?_)
    rw [hT.2.2.1] at r96 ⊢
    refine V_ireturn (pc := 99) dX6_count_99 rfl rfl (fun hR => ?_)
    exact rt_ (by unfold an_count; first | rfl | ((repeat' split) <;> first | rfl | (exfalso; omega))) (hK σ h (Fm_.rf))
  by_cases c6 : w = 6
  · subst c6
    refine V_iload_n (pc := 0) dX6_count_0 rfl rfl ?_
    refine V_tableIn (tgt := 100) (off := 99) (pc := 1) dX6_count_1 (by decide) (by decide) (by decide) (by decide) (by decide) ?_
    refine V_aload_n (pc := 100) dX6_count_100 rfl rfl ?_
    refine V_getr (pc := 101) dX6_count_101 fX6_35 rfl gg_0 rfl ?_
    refine V_geti (pc := 104) dX6_count_104 fX6_148 rfl gg_7 rfl (fun r104 => ?_)
    rw [show σ 7 2 = a 5 0 from h.1.2.2.2.1.1] at r104 ⊢
    refine V_ireturn (pc := 107) dX6_count_107 rfl rfl (fun hR => ?_)
    exact rt_ (by unfold an_count; first | rfl | ((repeat' split) <;> first | rfl | (exfalso; omega))) (hK σ h (Fm_.rf))
  by_cases c7 : w = 7
  · subst c7
    refine V_iload_n (pc := 0) dX6_count_0 rfl rfl ?_
    refine V_tableIn (tgt := 108) (off := 107) (pc := 1) dX6_count_1 (by decide) (by decide) (by decide) (by decide) (by decide) ?_
    refine V_aload_n (pc := 108) dX6_count_108 rfl rfl ?_
    refine V_getr (pc := 109) dX6_count_109 fX6_61 rfl gg_0 rfl ?_
    refine V_geti (pc := 112) dX6_count_112 fX6_148 rfl gg_32 rfl (fun r112 => ?_)
    rw [show σ 32 2 = a 8 0 from h.1.2.2.2.2.1.1] at r112 ⊢
    refine V_ireturn (pc := 115) dX6_count_115 rfl rfl (fun hR => ?_)
    exact rt_ (by unfold an_count; first | rfl | ((repeat' split) <;> first | rfl | (exfalso; omega))) (hK σ h (Fm_.rf))
  by_cases c8 : w = 8
  · subst c8
    refine V_iload_n (pc := 0) dX6_count_0 rfl rfl ?_
    refine V_tableIn (tgt := 116) (off := 115) (pc := 1) dX6_count_1 (by decide) (by decide) (by decide) (by decide) (by decide) ?_
    refine V_aload_n (pc := 116) dX6_count_116 rfl rfl ?_
    refine V_geti (pc := 117) dX6_count_117 fX6_284 rfl gg_0 rfl (fun r117 => ?_)
    rw [show σ 0 10 = a 17 0 from h.1.2.2.1.2] at r117 ⊢
    refine V_ireturn (pc := 120) dX6_count_120 rfl rfl (fun hR => ?_)
    exact rt_ (by unfold an_count; first | rfl | ((repeat' split) <;> first | rfl | (exfalso; omega))) (hK σ h (Fm_.rf))
  refine V_iload_n (pc := 0) dX6_count_0 rfl rfl ?_
  refine V_tableOut (tgt := 121) (pc := 1) dX6_count_1 (by first | assumption | decide | omega | exact ba_rg hR | exact b2_rg) (by omega) (by decide) ?_
  refine V_bipush (pc := 121) dX6_count_121 (by decide) ?_
  refine V_ireturn (pc := 123) dX6_count_123 rfl rfl (fun hR => ?_)
  exact rt_ (by unfold an_count; first | rfl | ((repeat' split) <;> first | rfl | (exfalso; omega))) (hK σ h (Fm_.rf))
end
