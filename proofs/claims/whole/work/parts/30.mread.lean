/-! ## class DrownedNamesModel: reading whole texts -/
theorem oc_0 {q c : Int} : oc_ q 0 c = false := by
  unfold oc_
  (repeat' split) <;> simp
theorem ok_lt {t : Nat} {L : Int} {b : Nat → Int} {i : Nat} (h : ok_ t L b i = true) : (i : Int) < L := by
  refine Decidable.byContradiction (fun z => ?_)
  have e : ba_ L b (i : Int) = 0 := by unfold ba_; rw [if_neg (by omega)]
  unfold ok_ at h
  rw [e, oc_0] at h
  split at h
  · simp at h
  · cases h
theorem fa_at {t : Nat} {L : Int} {b : Nat → Int} {i : Nat} (hL : 0 ≤ L) (hi : (i : Int) ≤ L) (h1 : ∀ j, j < i → ok_ t L b j = true) (h2 : ok_ t L b i = false) (h3 : ¬ (L = (i : Int) ∧ (L = 0 ∨ (L + 1) % (sp_ t : Int) = 0))) : fa_ t L b = (i : Int) := by
  have hw : wl_ (ok_ t L b) L.toNat = i := wl_at (by omega) h1 (fun _ => h2)
  unfold fa_
  simp only [hw]
  split
  · rfl
  · rename_i c
    rw [if_neg (fun z => h3 ⟨by omega, z⟩)]
    omega
theorem fa_all {t : Nat} {L : Int} {b : Nat → Int} (hL : 0 ≤ L) (h1 : ∀ j : Nat, (j : Int) < L → ok_ t L b j = true) (h3 : L = 0 ∨ (L + 1) % (sp_ t : Int) = 0) : fa_ t L b = -1 := by
  have hw : wl_ (ok_ t L b) L.toNat = L.toNat := wl_at (by omega) (fun j hj => h1 j (by omega)) (fun z => absurd z (by omega))
  unfold fa_
  simp only [hw]
  rw [if_neg (by omega), if_pos h3]
/-- what a thing k of text t is, where the model keeps it -/
def AK_ (t : Nat) (L : Int) (b : Nat → Int) (τ : Mm_) (k : Nat) : Prop := match t with
  | 0 => τ 46 (2 * k) = fg_ L b ((k : Int) * 4) ∧ τ 46 (2 * k + 1) = ba_ L b ((k : Int) * 4 + 2) - 48
  | 1 => τ 47 (3 * k) = fg_ L b ((k : Int) * 5) ∧ τ 47 (3 * k + 1) = (if ba_ L b ((k : Int) * 5 + 2) = 100 then 1 else 0) ∧ τ 47 (3 * k + 2) = (if ba_ L b ((k : Int) * 5 + 3) = 46 then -1 else ba_ L b ((k : Int) * 5 + 3) - 97)
  | _ => τ 48 (3 * k) = ba_ L b ((k : Int) * 5) - 48 ∧ τ 48 (3 * k + 1) = ba_ L b ((k : Int) * 5 + 1) - 97 ∧ τ 48 (3 * k + 2) = fg_ L b ((k : Int) * 5 + 2)
/-- the frame of a reading of text t -/
def FT_ (t : Nat) (σ τ : Mm_) : Prop := (∀ q, q ≠ 38 → q ≠ 45 → q ≠ 46 + t → τ q = σ q) ∧ (∀ j, j ≠ 7 → τ 38 j = σ 38 j) ∧ (∀ j, j ≠ t → τ 45 j = σ 45 j)
theorem FT_.rf {t : Nat} {σ : Mm_} : FT_ t σ σ := ⟨fun _ _ _ _ => rfl, fun _ _ => rfl, fun _ _ => rfl⟩
theorem FT_.at {t : Nat} {σ τ : Mm_} {x : Int} (h : FT_ t σ τ) : FT_ t σ (ms_ τ 38 7 x) := ⟨fun q h1 h2 h3 => by rw [ms_rw h1]; exact h.1 q h1 h2 h3, fun j hj => by rw [ms_ne (fun z => hj z.2)]; exact h.2.1 j hj, fun j hj => by rw [ms_nk (by decide)]; exact h.2.2 j hj⟩
theorem FT_.many {t : Nat} {σ τ : Mm_} {x : Int} (h : FT_ t σ τ) : FT_ t σ (ms_ τ 45 t x) := ⟨fun q h1 h2 h3 => by rw [ms_rw h2]; exact h.1 q h1 h2 h3, fun j hj => by rw [ms_nk (by decide)]; exact h.2.1 j hj, fun j hj => by rw [ms_ne (fun z => hj z.2)]; exact h.2.2 j hj⟩
theorem FT_.arr {t k j : Nat} {σ τ : Mm_} {x : Int} (h : FT_ t σ τ) (hk : k = 46 + t) : FT_ t σ (ms_ τ k j x) := by
  subst hk
  exact ⟨fun q h1 h2 h3 => by rw [ms_rw h3]; exact h.1 q h1 h2 h3, fun i hi => by rw [ms_nk (by omega)]; exact h.2.1 i hi, fun i hi => by rw [ms_nk (by omega)]; exact h.2.2 i hi⟩
section
variable {l : Launch} {D : Dt_} {σ : Mm_} {post : Option Av_ → Mm_ → Prop}
theorem ct_X7_readsThing_0 {L : Int} {b : Nat → Int} {m : Nat} (hT : MT_ 0 L b σ) (hL : 0 ≤ L ∧ L ≤ 23) (hq : σ 38 7 = ((m * 4 : Nat) : Int)) (hm : σ 45 0 = (m : Int)) (hm2 : m < 6) (hR : RM_ σ)
    (hno : ∀ p, p < 3 → (∀ j, j < p → ok_ 0 L b (m * 4 + j) = true) → ok_ 0 L b (m * 4 + p) = false → post (some (vi_ 0)) (ms_ σ 38 7 ((m * 4 + p : Nat) : Int)))
    (hok : (∀ p, p < 3 → ok_ 0 L b (m * 4 + p) = true) → post (some (vi_ 1)) (ms_ (ms_ (ms_ (ms_ σ 38 7 ((m * 4 + 3 : Nat) : Int)) 46 (2 * m) (fg_ L b ((m * 4 : Nat) : Int))) 46 (2 * m + 1) (ba_ L b ((m * 4 + 2 : Nat) : Int) - 48)) 45 0 ((m : Int) + 1))) : V_ l D mX7_readsThing (CM_ D mX7_readsThing post) 0 [some (vr_ 38), some (vi_ 0), none] [] σ := by
  refine V_aload_n (pc := 0) dX7_readsThing_0 rfl rfl ?_
  refine V_getr (pc := 1) dX7_readsThing_1 fX7_28 rfl gg_38 rfl ?_
  refine V_iload_n (pc := 4) dX7_readsThing_4 rfl rfl ?_
  refine V_iald (pc := 5) dX7_readsThing_5 gg_45 (by decide) (by decide) (fun r5 => ?_)
  rw [show σ 45 (0 : Int).toNat = (m : Int) from hm] at r5 ⊢
  refine V_iload_n (pc := 6) dX7_readsThing_6 rfl rfl ?_
  refine V_if_ne (tgt := 15) (pc := 7) dX7_readsThing_7 (by decide) (by constructor <;> omega) (fun h7 => by exact absurd h7 (by decide)) (fun h7 => ?_)
  refine V_bipush (pc := 10) dX7_readsThing_10 (by decide) ?_
  refine V_goto (tgt := 27) (pc := 12) dX7_readsThing_12 (by decide) ?_
  refine V_icmp_ne (tgt := 32) (pc := 27) dX7_readsThing_27 (by decide) (by constructor <;> omega) (by constructor <;> omega) (fun h27 => ?_) (fun h27 => by omega)
  refine V_iload_n (pc := 32) dX7_readsThing_32 rfl rfl ?_
  refine V_if_ne (tgt := 43) (pc := 33) dX7_readsThing_33 (by decide) (by constructor <;> omega) (fun h33 => by exact absurd h33 (by decide)) (fun h33 => ?_)
  refine V_aload_n (pc := 36) dX7_readsThing_36 rfl rfl ?_
  refine V_callV (pc := 37) (as := []) (rest := []) dX7_readsThing_37 ⟨kX7_106, iX7_readsShip, by decide, by decide⟩ rc_38 rfl rfl (Nat.le_of_ble_eq_true rfl) (Nat.le_of_ble_eq_true rfl) ?_
  refine ct_X7_readsShip hT hL hq hm hm2 hR (fun p hp hj hn => ?_) (fun ho => ?_)
  · show V_ _ _ _ _ _ _ [_] _
    refine V_goto (tgt := 59) (pc := 40) dX7_readsThing_40 (by decide) ?_
    refine V_istore_n (pc := 59) dX7_readsThing_59 rfl (by decide) rfl ?_
    show V_ _ _ _ _ _ [_, _, _] _ _
    refine V_aload_n (pc := 60) dX7_readsThing_60 rfl rfl ?_
    refine V_getr (pc := 61) dX7_readsThing_61 fX7_28 rfl gg_38 rfl ?_
    refine V_iload_n (pc := 64) dX7_readsThing_64 rfl rfl ?_
    refine V_dup2 (pc := 65) dX7_readsThing_65 rfl rfl ?_
    refine V_iald (pc := 66) dX7_readsThing_66 gg_45 (by decide) (by decide) (fun r66 => ?_)
    rw [show ms_ σ 38 7 ((m * 4 + p : Nat) : Int) 45 (0 : Int).toNat = (m : Int) from by rw [ms_nk (by decide)]; exact hm] at r66 ⊢
    refine V_iload_n (pc := 67) dX7_readsThing_67 rfl rfl ?_
    refine V_if_eq (tgt := 75) (pc := 68) dX7_readsThing_68 (by decide) (by constructor <;> omega) (fun h68 => ?_) (fun h68 => by exact absurd h68 (by decide))
    refine V_iconst (pc := 75) dX7_readsThing_75 ?_
    refine V_iadd (pc := 76) dX7_readsThing_76 ?_
    refine V_iast (pc := 77) dX7_readsThing_77 gg_45 (by decide) (by decide) (by constructor <;> omega) ?_
    rw [show (0 : Int).toNat = 0 from rfl]
    refine V_iload_n (pc := 78) dX7_readsThing_78 rfl rfl ?_
    refine V_ireturn (pc := 79) dX7_readsThing_79 rfl rfl (fun hR => ?_)
    have h2 := hno p hp hj hn
    rw [ms_id (by rw [ms_nk (by decide)]; rw [Int.add_zero]; exact hm)]
    exact h2
  · show V_ _ _ _ _ _ _ [_] _
    refine V_goto (tgt := 59) (pc := 40) dX7_readsThing_40 (by decide) ?_
    refine V_istore_n (pc := 59) dX7_readsThing_59 rfl (by decide) rfl ?_
    show V_ _ _ _ _ _ [_, _, _] _ _
    refine V_aload_n (pc := 60) dX7_readsThing_60 rfl rfl ?_
    refine V_getr (pc := 61) dX7_readsThing_61 fX7_28 rfl gg_38 rfl ?_
    refine V_iload_n (pc := 64) dX7_readsThing_64 rfl rfl ?_
    refine V_dup2 (pc := 65) dX7_readsThing_65 rfl rfl ?_
    refine V_iald (pc := 66) dX7_readsThing_66 gg_45 (by decide) (by decide) (fun r66 => ?_)
    rw [show (ms_ (ms_ (ms_ σ 38 7 ((m * 4 + 3 : Nat) : Int)) 46 (2 * m) (fg_ L b ((m * 4 : Nat) : Int))) 46 (2 * m + 1) (ba_ L b ((m * 4 + 2 : Nat) : Int) - 48)) 45 (0 : Int).toNat = (m : Int) from by simp only [ms_nk, ne_eq, Nat.reduceEqDiff, not_false_eq_true]; exact hm] at r66 ⊢
    refine V_iload_n (pc := 67) dX7_readsThing_67 rfl rfl ?_
    refine V_if_eq (tgt := 75) (pc := 68) dX7_readsThing_68 (by decide) (by constructor <;> omega) (fun h68 => by exact absurd h68 (by decide)) (fun h68 => ?_)
    refine V_iconst (pc := 71) dX7_readsThing_71 ?_
    refine V_goto (tgt := 76) (pc := 72) dX7_readsThing_72 (by decide) ?_
    refine V_iadd (pc := 76) dX7_readsThing_76 ?_
    refine V_iast (pc := 77) dX7_readsThing_77 gg_45 (by decide) (by decide) (by constructor <;> omega) ?_
    rw [show (0 : Int).toNat = 0 from rfl]
    refine V_iload_n (pc := 78) dX7_readsThing_78 rfl rfl ?_
    refine V_ireturn (pc := 79) dX7_readsThing_79 rfl rfl (fun hR => ?_)
    exact hok ho
theorem ct_X7_readsThing_1 {L : Int} {b : Nat → Int} {m : Nat} (hT : MT_ 1 L b σ) (hL : 0 ≤ L ∧ L ≤ 39) (hq : σ 38 7 = ((m * 5 : Nat) : Int)) (hm : σ 45 1 = (m : Int)) (hm2 : m < 8) (hR : RM_ σ)
    (hno : ∀ p, p < 4 → (∀ j, j < p → ok_ 1 L b (m * 5 + j) = true) → ok_ 1 L b (m * 5 + p) = false → post (some (vi_ 0)) (ms_ σ 38 7 ((m * 5 + p : Nat) : Int)))
    (hok : (∀ p, p < 4 → ok_ 1 L b (m * 5 + p) = true) → post (some (vi_ 1)) (ms_ (ms_ (ms_ (ms_ (ms_ σ 38 7 ((m * 5 + 4 : Nat) : Int)) 47 (3 * m) (fg_ L b ((m * 5 : Nat) : Int))) 47 (3 * m + 1) (if ba_ L b ((m * 5 + 2 : Nat) : Int) = 100 then (1 : Int) else 0)) 47 (3 * m + 2) (if ba_ L b ((m * 5 + 3 : Nat) : Int) = 46 then (-1 : Int) else ba_ L b ((m * 5 + 3 : Nat) : Int) - 97)) 45 1 ((m : Int) + 1))) : V_ l D mX7_readsThing (CM_ D mX7_readsThing post) 0 [some (vr_ 38), some (vi_ 1), none] [] σ := by
  refine V_aload_n (pc := 0) dX7_readsThing_0 rfl rfl ?_
  refine V_getr (pc := 1) dX7_readsThing_1 fX7_28 rfl gg_38 rfl ?_
  refine V_iload_n (pc := 4) dX7_readsThing_4 rfl rfl ?_
  refine V_iald (pc := 5) dX7_readsThing_5 gg_45 (by decide) (by decide) (fun r5 => ?_)
  rw [show σ 45 (1 : Int).toNat = (m : Int) from hm] at r5 ⊢
  refine V_iload_n (pc := 6) dX7_readsThing_6 rfl rfl ?_
  refine V_if_ne (tgt := 15) (pc := 7) dX7_readsThing_7 (by decide) (by constructor <;> omega) (fun h7 => ?_) (fun h7 => by exact absurd h7 (by decide))
  refine V_iload_n (pc := 15) dX7_readsThing_15 rfl rfl ?_
  refine V_iconst (pc := 16) dX7_readsThing_16 ?_
  refine V_icmp_ne (tgt := 25) (pc := 17) dX7_readsThing_17 (by decide) (by constructor <;> omega) (by constructor <;> omega) (fun h17 => by exact absurd h17 (by decide)) (fun h17 => ?_)
  refine V_bipush (pc := 20) dX7_readsThing_20 (by decide) ?_
  refine V_goto (tgt := 27) (pc := 22) dX7_readsThing_22 (by decide) ?_
  refine V_icmp_ne (tgt := 32) (pc := 27) dX7_readsThing_27 (by decide) (by constructor <;> omega) (by constructor <;> omega) (fun h27 => ?_) (fun h27 => by omega)
  refine V_iload_n (pc := 32) dX7_readsThing_32 rfl rfl ?_
  refine V_if_ne (tgt := 43) (pc := 33) dX7_readsThing_33 (by decide) (by constructor <;> omega) (fun h33 => ?_) (fun h33 => by exact absurd h33 (by decide))
  refine V_iload_n (pc := 43) dX7_readsThing_43 rfl rfl ?_
  refine V_iconst (pc := 44) dX7_readsThing_44 ?_
  refine V_icmp_ne (tgt := 55) (pc := 45) dX7_readsThing_45 (by decide) (by constructor <;> omega) (by constructor <;> omega) (fun h45 => by exact absurd h45 (by decide)) (fun h45 => ?_)
  refine V_aload_n (pc := 48) dX7_readsThing_48 rfl rfl ?_
  refine V_callV (pc := 49) (as := []) (rest := []) dX7_readsThing_49 ⟨kX7_110, iX7_readsName, by decide, by decide⟩ rc_38 rfl rfl (Nat.le_of_ble_eq_true rfl) (Nat.le_of_ble_eq_true rfl) ?_
  refine ct_X7_readsName hT hL hq hm hm2 hR (fun p hp hj hn => ?_) (fun ho => ?_)
  · show V_ _ _ _ _ _ _ [_] _
    refine V_goto (tgt := 59) (pc := 52) dX7_readsThing_52 (by decide) ?_
    refine V_istore_n (pc := 59) dX7_readsThing_59 rfl (by decide) rfl ?_
    show V_ _ _ _ _ _ [_, _, _] _ _
    refine V_aload_n (pc := 60) dX7_readsThing_60 rfl rfl ?_
    refine V_getr (pc := 61) dX7_readsThing_61 fX7_28 rfl gg_38 rfl ?_
    refine V_iload_n (pc := 64) dX7_readsThing_64 rfl rfl ?_
    refine V_dup2 (pc := 65) dX7_readsThing_65 rfl rfl ?_
    refine V_iald (pc := 66) dX7_readsThing_66 gg_45 (by decide) (by decide) (fun r66 => ?_)
    rw [show ms_ σ 38 7 ((m * 5 + p : Nat) : Int) 45 (1 : Int).toNat = (m : Int) from by rw [ms_nk (by decide)]; exact hm] at r66 ⊢
    refine V_iload_n (pc := 67) dX7_readsThing_67 rfl rfl ?_
    refine V_if_eq (tgt := 75) (pc := 68) dX7_readsThing_68 (by decide) (by constructor <;> omega) (fun h68 => ?_) (fun h68 => by exact absurd h68 (by decide))
    refine V_iconst (pc := 75) dX7_readsThing_75 ?_
    refine V_iadd (pc := 76) dX7_readsThing_76 ?_
    refine V_iast (pc := 77) dX7_readsThing_77 gg_45 (by decide) (by decide) (by constructor <;> omega) ?_
    rw [show (1 : Int).toNat = 1 from rfl]
    refine V_iload_n (pc := 78) dX7_readsThing_78 rfl rfl ?_
    refine V_ireturn (pc := 79) dX7_readsThing_79 rfl rfl (fun hR => ?_)
    have h2 := hno p hp hj hn
    rw [ms_id (by rw [ms_nk (by decide)]; rw [Int.add_zero]; exact hm)]
    exact h2
  · show V_ _ _ _ _ _ _ [_] _
    refine V_goto (tgt := 59) (pc := 52) dX7_readsThing_52 (by decide) ?_
    refine V_istore_n (pc := 59) dX7_readsThing_59 rfl (by decide) rfl ?_
    show V_ _ _ _ _ _ [_, _, _] _ _
    refine V_aload_n (pc := 60) dX7_readsThing_60 rfl rfl ?_
    refine V_getr (pc := 61) dX7_readsThing_61 fX7_28 rfl gg_38 rfl ?_
    refine V_iload_n (pc := 64) dX7_readsThing_64 rfl rfl ?_
    refine V_dup2 (pc := 65) dX7_readsThing_65 rfl rfl ?_
    refine V_iald (pc := 66) dX7_readsThing_66 gg_45 (by decide) (by decide) (fun r66 => ?_)
    rw [show (ms_ (ms_ (ms_ (ms_ σ 38 7 ((m * 5 + 4 : Nat) : Int)) 47 (3 * m) (fg_ L b ((m * 5 : Nat) : Int))) 47 (3 * m + 1) (if ba_ L b ((m * 5 + 2 : Nat) : Int) = 100 then (1 : Int) else 0)) 47 (3 * m + 2) (if ba_ L b ((m * 5 + 3 : Nat) : Int) = 46 then (-1 : Int) else ba_ L b ((m * 5 + 3 : Nat) : Int) - 97)) 45 (1 : Int).toNat = (m : Int) from by simp only [ms_nk, ne_eq, Nat.reduceEqDiff, not_false_eq_true]; exact hm] at r66 ⊢
    refine V_iload_n (pc := 67) dX7_readsThing_67 rfl rfl ?_
    refine V_if_eq (tgt := 75) (pc := 68) dX7_readsThing_68 (by decide) (by constructor <;> omega) (fun h68 => by exact absurd h68 (by decide)) (fun h68 => ?_)
    refine V_iconst (pc := 71) dX7_readsThing_71 ?_
    refine V_goto (tgt := 76) (pc := 72) dX7_readsThing_72 (by decide) ?_
    refine V_iadd (pc := 76) dX7_readsThing_76 ?_
    refine V_iast (pc := 77) dX7_readsThing_77 gg_45 (by decide) (by decide) (by constructor <;> omega) ?_
    rw [show (1 : Int).toNat = 1 from rfl]
    refine V_iload_n (pc := 78) dX7_readsThing_78 rfl rfl ?_
    refine V_ireturn (pc := 79) dX7_readsThing_79 rfl rfl (fun hR => ?_)
    exact hok ho
theorem ct_X7_readsThing_2 {L : Int} {b : Nat → Int} {m : Nat} (hT : MT_ 2 L b σ) (hL : 0 ≤ L ∧ L ≤ 59) (hq : σ 38 7 = ((m * 5 : Nat) : Int)) (hm : σ 45 2 = (m : Int)) (hm2 : m < 12) (hR : RM_ σ)
    (hno : ∀ p, p < 4 → (∀ j, j < p → ok_ 2 L b (m * 5 + j) = true) → ok_ 2 L b (m * 5 + p) = false → post (some (vi_ 0)) (ms_ σ 38 7 ((m * 5 + p : Nat) : Int)))
    (hok : (∀ p, p < 4 → ok_ 2 L b (m * 5 + p) = true) → post (some (vi_ 1)) (ms_ (ms_ (ms_ (ms_ (ms_ σ 38 7 ((m * 5 + 4 : Nat) : Int)) 48 (3 * m) (ba_ L b ((m * 5 : Nat) : Int) - 48)) 48 (3 * m + 1) (ba_ L b ((m * 5 + 1 : Nat) : Int) - 97)) 48 (3 * m + 2) (fg_ L b ((m * 5 + 2 : Nat) : Int))) 45 2 ((m : Int) + 1))) : V_ l D mX7_readsThing (CM_ D mX7_readsThing post) 0 [some (vr_ 38), some (vi_ 2), none] [] σ := by
  refine V_aload_n (pc := 0) dX7_readsThing_0 rfl rfl ?_
  refine V_getr (pc := 1) dX7_readsThing_1 fX7_28 rfl gg_38 rfl ?_
  refine V_iload_n (pc := 4) dX7_readsThing_4 rfl rfl ?_
  refine V_iald (pc := 5) dX7_readsThing_5 gg_45 (by decide) (by decide) (fun r5 => ?_)
  rw [show σ 45 (2 : Int).toNat = (m : Int) from hm] at r5 ⊢
  refine V_iload_n (pc := 6) dX7_readsThing_6 rfl rfl ?_
  refine V_if_ne (tgt := 15) (pc := 7) dX7_readsThing_7 (by decide) (by constructor <;> omega) (fun h7 => ?_) (fun h7 => by exact absurd h7 (by decide))
  refine V_iload_n (pc := 15) dX7_readsThing_15 rfl rfl ?_
  refine V_iconst (pc := 16) dX7_readsThing_16 ?_
  refine V_icmp_ne (tgt := 25) (pc := 17) dX7_readsThing_17 (by decide) (by constructor <;> omega) (by constructor <;> omega) (fun h17 => ?_) (fun h17 => by exact absurd h17 (by decide))
  refine V_bipush (pc := 25) dX7_readsThing_25 (by decide) ?_
  refine V_icmp_ne (tgt := 32) (pc := 27) dX7_readsThing_27 (by decide) (by constructor <;> omega) (by constructor <;> omega) (fun h27 => ?_) (fun h27 => by omega)
  refine V_iload_n (pc := 32) dX7_readsThing_32 rfl rfl ?_
  refine V_if_ne (tgt := 43) (pc := 33) dX7_readsThing_33 (by decide) (by constructor <;> omega) (fun h33 => ?_) (fun h33 => by exact absurd h33 (by decide))
  refine V_iload_n (pc := 43) dX7_readsThing_43 rfl rfl ?_
  refine V_iconst (pc := 44) dX7_readsThing_44 ?_
  refine V_icmp_ne (tgt := 55) (pc := 45) dX7_readsThing_45 (by decide) (by constructor <;> omega) (by constructor <;> omega) (fun h45 => ?_) (fun h45 => by exact absurd h45 (by decide))
  refine V_aload_n (pc := 55) dX7_readsThing_55 rfl rfl ?_
  refine V_callV (pc := 56) (as := []) (rest := []) dX7_readsThing_56 ⟨kX7_113, iX7_readsLine, by decide, by decide⟩ rc_38 rfl rfl (Nat.le_of_ble_eq_true rfl) (Nat.le_of_ble_eq_true rfl) ?_
  refine ct_X7_readsLine hT hL hq hm hm2 hR (fun p hp hj hn => ?_) (fun ho => ?_)
  · show V_ _ _ _ _ _ _ [_] _
    refine V_istore_n (pc := 59) dX7_readsThing_59 rfl (by decide) rfl ?_
    show V_ _ _ _ _ _ [_, _, _] _ _
    refine V_aload_n (pc := 60) dX7_readsThing_60 rfl rfl ?_
    refine V_getr (pc := 61) dX7_readsThing_61 fX7_28 rfl gg_38 rfl ?_
    refine V_iload_n (pc := 64) dX7_readsThing_64 rfl rfl ?_
    refine V_dup2 (pc := 65) dX7_readsThing_65 rfl rfl ?_
    refine V_iald (pc := 66) dX7_readsThing_66 gg_45 (by decide) (by decide) (fun r66 => ?_)
    rw [show ms_ σ 38 7 ((m * 5 + p : Nat) : Int) 45 (2 : Int).toNat = (m : Int) from by rw [ms_nk (by decide)]; exact hm] at r66 ⊢
    refine V_iload_n (pc := 67) dX7_readsThing_67 rfl rfl ?_
    refine V_if_eq (tgt := 75) (pc := 68) dX7_readsThing_68 (by decide) (by constructor <;> omega) (fun h68 => ?_) (fun h68 => by exact absurd h68 (by decide))
    refine V_iconst (pc := 75) dX7_readsThing_75 ?_
    refine V_iadd (pc := 76) dX7_readsThing_76 ?_
    refine V_iast (pc := 77) dX7_readsThing_77 gg_45 (by decide) (by decide) (by constructor <;> omega) ?_
    rw [show (2 : Int).toNat = 2 from rfl]
    refine V_iload_n (pc := 78) dX7_readsThing_78 rfl rfl ?_
    refine V_ireturn (pc := 79) dX7_readsThing_79 rfl rfl (fun hR => ?_)
    have h2 := hno p hp hj hn
    rw [ms_id (by rw [ms_nk (by decide)]; rw [Int.add_zero]; exact hm)]
    exact h2
  · show V_ _ _ _ _ _ _ [_] _
    refine V_istore_n (pc := 59) dX7_readsThing_59 rfl (by decide) rfl ?_
    show V_ _ _ _ _ _ [_, _, _] _ _
    refine V_aload_n (pc := 60) dX7_readsThing_60 rfl rfl ?_
    refine V_getr (pc := 61) dX7_readsThing_61 fX7_28 rfl gg_38 rfl ?_
    refine V_iload_n (pc := 64) dX7_readsThing_64 rfl rfl ?_
    refine V_dup2 (pc := 65) dX7_readsThing_65 rfl rfl ?_
    refine V_iald (pc := 66) dX7_readsThing_66 gg_45 (by decide) (by decide) (fun r66 => ?_)
    rw [show (ms_ (ms_ (ms_ (ms_ σ 38 7 ((m * 5 + 4 : Nat) : Int)) 48 (3 * m) (ba_ L b ((m * 5 : Nat) : Int) - 48)) 48 (3 * m + 1) (ba_ L b ((m * 5 + 1 : Nat) : Int) - 97)) 48 (3 * m + 2) (fg_ L b ((m * 5 + 2 : Nat) : Int))) 45 (2 : Int).toNat = (m : Int) from by simp only [ms_nk, ne_eq, Nat.reduceEqDiff, not_false_eq_true]; exact hm] at r66 ⊢
    refine V_iload_n (pc := 67) dX7_readsThing_67 rfl rfl ?_
    refine V_if_eq (tgt := 75) (pc := 68) dX7_readsThing_68 (by decide) (by constructor <;> omega) (fun h68 => by exact absurd h68 (by decide)) (fun h68 => ?_)
    refine V_iconst (pc := 71) dX7_readsThing_71 ?_
    refine V_goto (tgt := 76) (pc := 72) dX7_readsThing_72 (by decide) ?_
    refine V_iadd (pc := 76) dX7_readsThing_76 ?_
    refine V_iast (pc := 77) dX7_readsThing_77 gg_45 (by decide) (by decide) (by constructor <;> omega) ?_
    rw [show (2 : Int).toNat = 2 from rfl]
    refine V_iload_n (pc := 78) dX7_readsThing_78 rfl rfl ?_
    refine V_ireturn (pc := 79) dX7_readsThing_79 rfl rfl (fun hR => ?_)
    exact hok ho
theorem lp_X7_readsText_0 {L : Int} {b : Nat → Int} (hL : 0 ≤ L ∧ L ≤ 23) (hK : ∀ τ, τ 45 0 = it_ 0 L b → (∀ k : Nat, (k : Int) < it_ 0 L b → AK_ 0 L b τ k) → FT_ 0 σ τ → post (some (vi_ (fa_ 0 L b))) τ) : ∀ n m : Nat, n + m = 6 → ∀ τ, RM_ τ → MT_ 0 L b τ → τ 38 7 = ((m * 4 : Nat) : Int) → τ 45 0 = (m : Int) → ((m * 4 : Nat) : Int) ≤ L → 0 < L → (∀ j, j < m * 4 → ok_ 0 L b j = true) → (∀ k, k < m → AK_ 0 L b τ k) → FT_ 0 σ τ → V_ l D mX7_readsText (CM_ D mX7_readsText post) 27 [some (vr_ 38), some (vi_ 0), some (vi_ 1), none] [] τ := by
  intro n
  induction n with
  | zero => intro m hm τ hR hT hq hm2 hle h0 hj hA hF; omega
  | succ n ih =>
    intro m hm τ hR hT hq hm2 hle h0 hj hA hF
    have hm3 : m < 6 := by omega
    refine V_iload_n (pc := 27) dX7_readsText_27 rfl rfl ?_
    refine V_if_eq (tgt := 120) (pc := 28) dX7_readsText_28 (by decide) (by constructor <;> omega) (fun h28 => by exact absurd h28 (by decide)) (fun h28 => ?_)
    refine V_aload_n (pc := 31) dX7_readsText_31 rfl rfl ?_
    refine V_iload_n (pc := 32) dX7_readsText_32 rfl rfl ?_
    refine V_callV (pc := 33) (as := [_]) (rest := []) dX7_readsText_33 ⟨kX7_116, iX7_readsThing, by decide, by decide⟩ rc_38 rfl rfl (Nat.le_of_ble_eq_true rfl) (Nat.le_of_ble_eq_true rfl) ?_
    refine ct_X7_readsThing_0 hT hL hq hm2 hm3 hR (fun p hp hjp hn => ?_) (fun ho => ?_)
    · show V_ _ _ _ _ _ _ [_] _
      refine V_istore_n (pc := 36) dX7_readsText_36 rfl (by decide) rfl ?_
      show V_ _ _ _ _ _ [_, _, _, _] _ _
      refine V_iload_n (pc := 37) dX7_readsText_37 rfl rfl ?_
      refine V_if_eq (tgt := 58) (pc := 38) dX7_readsText_38 (by decide) (by constructor <;> omega) (fun h38 => ?_) (fun h38 => by exact absurd h38 (by decide))
      refine V_iconst (pc := 58) dX7_readsText_58 ?_
      refine V_istore_n (pc := 59) dX7_readsText_59 rfl (by decide) rfl ?_
      show V_ _ _ _ _ _ [_, _, _, _] _ _
      refine V_iload_n (pc := 60) dX7_readsText_60 rfl rfl ?_
      refine V_if_eq (tgt := 87) (pc := 61) dX7_readsText_61 (by decide) (by constructor <;> omega) (fun h61 => ?_) (fun h61 => by exact absurd h61 (by decide))
      refine V_aload_n (pc := 87) dX7_readsText_87 rfl rfl ?_
      refine V_getr (pc := 88) dX7_readsText_88 fX7_28 rfl gg_38 rfl ?_
      refine V_iload_n (pc := 91) dX7_readsText_91 rfl rfl ?_
      refine V_iconst (pc := 92) dX7_readsText_92 ?_
      refine V_iast (pc := 93) dX7_readsText_93 gg_45 (by decide) (by decide) (by constructor <;> omega) ?_
      rw [show (0 : Int).toNat = 0 from rfl]
      refine V_aload_n (pc := 94) dX7_readsText_94 rfl rfl ?_
      refine V_geti (pc := 95) dX7_readsText_95 fX7_94 rfl gg_38 rfl (fun r95 => ?_)
      rw [ms_nk (by decide), ms_eq] at r95 ⊢
      refine V_ireturn (pc := 98) dX7_readsText_98 rfl rfl (fun hR => ?_)
      have hpl : ((m * 4 + p : Nat) : Int) ≤ L := by
        by_cases c : p = 0
        · subst c; exact hle
        · have := ok_lt (hjp (p - 1) (by omega))
          omega
      have hfa : fa_ 0 L b = ((m * 4 + p : Nat) : Int) := fa_at hL.1 hpl (fun j hjj => by
        by_cases c : j < m * 4
        · exact hj j c
        · have := hjp (j - m * 4) (by omega)
          rw [show m * 4 + (j - m * 4) = j by omega] at this
          exact this) hn (fun z => by rw [show ((sp_ 0 : Nat) : Int) = 4 from rfl] at z; omega)
      have hit : it_ 0 L b = 0 := by unfold it_; rw [if_neg (by omega)]
      rw [← hfa]
      exact hK _ (by rw [ms_eq, hit]) (fun k hk => by rw [hit] at hk; omega) hF.at.many
    · show V_ _ _ _ _ _ _ [_] _
      obtain ⟨ρ, hρ⟩ : ∃ ρ, ρ = (ms_ (ms_ (ms_ (ms_ τ 38 7 ((m * 4 + 3 : Nat) : Int)) 46 (2 * m) (fg_ L b ((m * 4 : Nat) : Int))) 46 (2 * m + 1) (ba_ L b ((m * 4 + 2 : Nat) : Int) - 48)) 45 0 ((m : Int) + 1)) := ⟨_, rfl⟩
      rw [← hρ]
      refine V_rg (fun hRρ => ?_)
      have hFr : FT_ 0 σ ρ := by rw [hρ]; exact ((hF.at.arr rfl).arr rfl).many
      have hq2 : ρ 38 7 = ((m * 4 + 3 : Nat) : Int) := by rw [hρ]; simp [ms_]
      have hm4 : ρ 45 0 = (m : Int) + 1 := by rw [hρ, ms_eq]
      have hT2 : MT_ 0 L b ρ := hT.cg (by rw [hρ]; simp only [ms_rw, ne_eq, Nat.reduceEqDiff, not_false_eq_true]) (by rw [hρ]; simp only [ms_rw, ne_eq, Nat.reduceEqDiff, not_false_eq_true])
      have hA2 : ∀ k, k < m + 1 → AK_ 0 L b ρ k := by
        intro k hk
        by_cases c : k = m
        · subst c
          exact ⟨by rw [hρ]; simp [ms_], by rw [hρ]; simp [ms_]⟩
        · have := hA k (by omega)
          refine ⟨?_, ?_⟩
          · rw [hρ]
            have n1 : ¬ 2 * k = 2 * m := by omega
            have n2 : ¬ 2 * k = 2 * m + 1 := by omega
            rw [ms_nk (by decide), ms_ne (fun z => n2 z.2), ms_ne (fun z => n1 z.2), ms_nk (by decide)]
            exact this.1
          · rw [hρ]
            have n1 : ¬ 2 * k + 1 = 2 * m := by omega
            have n2 : ¬ 2 * k + 1 = 2 * m + 1 := by omega
            rw [ms_nk (by decide), ms_ne (fun z => n2 z.2), ms_ne (fun z => n1 z.2), ms_nk (by decide)]
            exact this.2
      have hjj : ∀ j, j < m * 4 + 3 → ok_ 0 L b j = true := by
        intro j hjj
        by_cases c : j < m * 4
        · exact hj j c
        · have := ho (j - m * 4) (by omega)
          rw [show m * 4 + (j - m * 4) = j by omega] at this
          exact this
      have hel : ((m * 4 + 3 : Nat) : Int) ≤ L := by
        have := ok_lt (hjj (m * 4 + 2) (by omega))
        omega
      refine V_istore_n (pc := 36) dX7_readsText_36 rfl (by decide) rfl ?_
      show V_ _ _ _ _ _ [_, _, _, _] _ _
      refine V_iload_n (pc := 37) dX7_readsText_37 rfl rfl ?_
      refine V_if_eq (tgt := 58) (pc := 38) dX7_readsText_38 (by decide) (by constructor <;> omega) (fun h38 => by exact absurd h38 (by decide)) (fun h38 => ?_)
      refine V_aload_n (pc := 41) dX7_readsText_41 rfl rfl ?_
      refine V_geti (pc := 42) dX7_readsText_42 fX7_94 rfl gg_38 rfl (fun r42 => ?_)
      rw [hq2] at r42 ⊢
      refine V_aload_n (pc := 45) dX7_readsText_45 rfl rfl ?_
      refine V_getr (pc := 46) dX7_readsText_46 fX7_25 rfl gg_38 rfl ?_
      refine V_iload_n (pc := 49) dX7_readsText_49 rfl rfl ?_
      refine V_iald (pc := 50) dX7_readsText_50 gg_44 (by decide) (by decide) (fun r50 => ?_)
      rw [show ρ 44 (0 : Int).toNat = L from hT2.1] at r50 ⊢
      refine V_icmp_ge (tgt := 58) (pc := 51) dX7_readsText_51 (by decide) (by constructor <;> omega) (by constructor <;> omega) (fun h51 => ?_) (fun h51 => ?_)
      · skip
        refine V_iconst (pc := 58) dX7_readsText_58 ?_
        refine V_istore_n (pc := 59) dX7_readsText_59 rfl (by decide) rfl ?_
        show V_ _ _ _ _ _ [_, _, _, _] _ _
        refine V_iload_n (pc := 60) dX7_readsText_60 rfl rfl ?_
        refine V_if_eq (tgt := 87) (pc := 61) dX7_readsText_61 (by decide) (by constructor <;> omega) (fun h61 => by exact absurd h61 (by decide)) (fun h61 => ?_)
        refine V_iload_n (pc := 64) dX7_readsText_64 rfl rfl ?_
        refine V_if_eq (tgt := 99) (pc := 65) dX7_readsText_65 (by decide) (by constructor <;> omega) (fun h65 => ?_) (fun h65 => by exact absurd h65 (by decide))
        refine V_aload_n (pc := 99) dX7_readsText_99 rfl rfl ?_
        refine V_dup (pc := 100) dX7_readsText_100 rfl ?_
        refine V_geti (pc := 101) dX7_readsText_101 fX7_94 rfl gg_38 rfl (fun r101 => ?_)
        rw [hq2] at r101 ⊢
        refine V_iload_n (pc := 104) dX7_readsText_104 rfl rfl ?_
        refine V_if_eq (tgt := 112) (pc := 105) dX7_readsText_105 (by decide) (by constructor <;> omega) (fun h105 => ?_) (fun h105 => by exact absurd h105 (by decide))
        refine V_iconst (pc := 112) dX7_readsText_112 ?_
        refine V_iadd (pc := 113) dX7_readsText_113 ?_
        refine V_puti (pc := 114) dX7_readsText_114 fX7_94 rfl gg_38 rfl pq_7_7 rfl rfl (by constructor <;> omega) ?_
        refine V_goto (tgt := 27) (pc := 117) dX7_readsText_117 (by decide) ?_
        refine V_iload_n (pc := 27) dX7_readsText_27 rfl rfl ?_
        refine V_if_eq (tgt := 120) (pc := 28) dX7_readsText_28 (by decide) (by constructor <;> omega) (fun h28 => ?_) (fun h28 => by exact absurd h28 (by decide))
        refine V_iconst (pc := 120) dX7_readsText_120 ?_
        refine V_ireturn (pc := 121) dX7_readsText_121 rfl rfl (fun hR => ?_)
        have hLe : L = ((m * 4 + 3 : Nat) : Int) := by omega
        have hfa : fa_ 0 L b = -1 := fa_all hL.1 (fun j hjL => hjj j (by omega)) (Or.inr (by rw [show ((sp_ 0 : Nat) : Int) = 4 from rfl]; omega))
        have hit : it_ 0 L b = (m : Int) + 1 := by unfold it_; rw [if_pos hfa, show ((sp_ 0 : Nat) : Int) = 4 from rfl]; omega
        rw [← hfa]
        exact hK _ (by rw [ms_nk (by decide), hit]; exact hm4) (fun k hk => by
          have := hA2 k (by omega)
          unfold AK_ at this ⊢
          simp only [ms_nk, ne_eq, Nat.reduceEqDiff, not_false_eq_true]
          exact this) hFr.at
      · skip
        refine V_iconst (pc := 54) dX7_readsText_54 ?_
        refine V_goto (tgt := 59) (pc := 55) dX7_readsText_55 (by decide) ?_
        refine V_istore_n (pc := 59) dX7_readsText_59 rfl (by decide) rfl ?_
        show V_ _ _ _ _ _ [_, _, _, _] _ _
        refine V_iload_n (pc := 60) dX7_readsText_60 rfl rfl ?_
        refine V_if_eq (tgt := 87) (pc := 61) dX7_readsText_61 (by decide) (by constructor <;> omega) (fun h61 => by exact absurd h61 (by decide)) (fun h61 => ?_)
        refine V_iload_n (pc := 64) dX7_readsText_64 rfl rfl ?_
        refine V_if_eq (tgt := 99) (pc := 65) dX7_readsText_65 (by decide) (by constructor <;> omega) (fun h65 => by exact absurd h65 (by decide)) (fun h65 => ?_)
        refine V_aload_n (pc := 68) dX7_readsText_68 rfl rfl ?_
        refine V_getr (pc := 69) dX7_readsText_69 fX7_22 rfl gg_38 rfl ?_
        refine V_bipush (pc := 72) dX7_readsText_72 (by decide) ?_
        refine V_iload_n (pc := 74) dX7_readsText_74 rfl rfl ?_
        refine V_imul (pc := 75) dX7_readsText_75 ?_
        refine V_aload_n (pc := 76) dX7_readsText_76 rfl rfl ?_
        refine V_geti (pc := 77) dX7_readsText_77 fX7_94 rfl gg_38 rfl (fun r77 => ?_)
        rw [hq2] at r77 ⊢
        refine V_iadd (pc := 80) dX7_readsText_80 ?_
        refine V_iald (pc := 81) dX7_readsText_81 gg_43 (by have : ((180 : Nat) : Int) = 180 := rfl; omega) (by decide) (fun r81 => ?_)
        rw [show (60 * 0 + ((m * 4 + 3 : Nat) : Int)).toNat = 60 * 0 + (m * 4 + 3) by omega, hT2.2 (m * 4 + 3) (by omega)] at r81 ⊢
        refine V_bipush (pc := 82) dX7_readsText_82 (by decide) ?_
        refine V_icmp_eq (tgt := 99) (pc := 84) dX7_readsText_84 (by decide) (by constructor <;> omega) (by constructor <;> omega) (fun h84 => ?_) (fun h84 => ?_)
        · skip
          have hoe : ok_ 0 L b (m * 4 + 3) = true := ox_0_3.mpr (by unfold ba_; rw [if_pos (by omega)]; exact h84)
          refine V_aload_n (pc := 99) dX7_readsText_99 rfl rfl ?_
          refine V_dup (pc := 100) dX7_readsText_100 rfl ?_
          refine V_geti (pc := 101) dX7_readsText_101 fX7_94 rfl gg_38 rfl (fun r101 => ?_)
          rw [hq2] at r101 ⊢
          refine V_iload_n (pc := 104) dX7_readsText_104 rfl rfl ?_
          refine V_if_eq (tgt := 112) (pc := 105) dX7_readsText_105 (by decide) (by constructor <;> omega) (fun h105 => by exact absurd h105 (by decide)) (fun h105 => ?_)
          refine V_iconst (pc := 108) dX7_readsText_108 ?_
          refine V_goto (tgt := 113) (pc := 109) dX7_readsText_109 (by decide) ?_
          refine V_iadd (pc := 113) dX7_readsText_113 ?_
          refine V_puti (pc := 114) dX7_readsText_114 fX7_94 rfl gg_38 rfl pq_7_7 rfl rfl (by constructor <;> omega) ?_
          refine V_goto (tgt := 27) (pc := 117) dX7_readsText_117 (by decide) ?_
          refine V_none (k := 3) ?_
          show V_ _ _ _ _ _ [_, _, _, _] _ _
          refine V_rg (fun hRr0 => ?_)
          have hRr : RM_ ρ := hRρ
          exact V_cg (ih (m + 1) (by omega) _ (RM_.ms hRr (by constructor <;> omega)) (hT2.ms (by decide) (by decide)) (by rw [ms_eq]; omega) (by rw [ms_nk (by decide), hm4]; omega) (by omega) h0 (fun j hjx => by
            by_cases c : j = m * 4 + 3
            · rw [c]; exact hoe
            · exact hjj j (by omega)) (fun k hk => by
            have := hA2 k hk
            unfold AK_ at this ⊢
            simp only [ms_nk, ne_eq, Nat.reduceEqDiff, not_false_eq_true]
            exact this) hFr.at) (by simp) rfl rfl
        · skip
          have hoe : ok_ 0 L b (m * 4 + 3) = false := by
            cases hc : ok_ 0 L b (m * 4 + 3) with
            | false => rfl
            | true =>
              have hx := ox_0_3.mp hc
              unfold ba_ at hx
              rw [if_pos (by omega)] at hx
              exact absurd hx h84
          refine V_aload_n (pc := 87) dX7_readsText_87 rfl rfl ?_
          refine V_getr (pc := 88) dX7_readsText_88 fX7_28 rfl gg_38 rfl ?_
          refine V_iload_n (pc := 91) dX7_readsText_91 rfl rfl ?_
          refine V_iconst (pc := 92) dX7_readsText_92 ?_
          refine V_iast (pc := 93) dX7_readsText_93 gg_45 (by decide) (by decide) (by constructor <;> omega) ?_
          rw [show (0 : Int).toNat = 0 from rfl]
          refine V_aload_n (pc := 94) dX7_readsText_94 rfl rfl ?_
          refine V_geti (pc := 95) dX7_readsText_95 fX7_94 rfl gg_38 rfl (fun r95 => ?_)
          rw [ms_nk (by decide), hq2] at r95 ⊢
          refine V_ireturn (pc := 98) dX7_readsText_98 rfl rfl (fun hR => ?_)
          have hfa : fa_ 0 L b = ((m * 4 + 3 : Nat) : Int) := fa_at hL.1 hel hjj hoe (fun z => by omega)
          have hit : it_ 0 L b = 0 := by unfold it_; rw [if_neg (by omega)]
          rw [← hfa]
          exact hK _ (by rw [ms_eq, hit]) (fun k hk => by rw [hit] at hk; omega) hFr.many
theorem ct_X7_readsText_0 {L : Int} {b : Nat → Int} (hL : 0 ≤ L ∧ L ≤ 23) (hT : MT_ 0 L b σ) (hK : ∀ τ, τ 45 0 = it_ 0 L b → (∀ k : Nat, (k : Int) < it_ 0 L b → AK_ 0 L b τ k) → FT_ 0 σ τ → post (some (vi_ (fa_ 0 L b))) τ) : V_ l D mX7_readsText (CM_ D mX7_readsText post) 0 [some (vr_ 38), some (vi_ 0), none, none] [] σ := by
  refine V_aload_n (pc := 0) dX7_readsText_0 rfl rfl ?_
  refine V_iconst (pc := 1) dX7_readsText_1 ?_
  refine V_puti (pc := 2) dX7_readsText_2 fX7_94 rfl gg_38 rfl pq_7_7 rfl rfl (by constructor <;> omega) ?_
  refine V_aload_n (pc := 5) dX7_readsText_5 rfl rfl ?_
  refine V_getr (pc := 6) dX7_readsText_6 fX7_28 rfl gg_38 rfl ?_
  refine V_iload_n (pc := 9) dX7_readsText_9 rfl rfl ?_
  refine V_iconst (pc := 10) dX7_readsText_10 ?_
  refine V_iast (pc := 11) dX7_readsText_11 gg_45 (by decide) (by decide) (by constructor <;> omega) ?_
  rw [show (0 : Int).toNat = 0 from rfl]
  refine V_aload_n (pc := 12) dX7_readsText_12 rfl rfl ?_
  refine V_getr (pc := 13) dX7_readsText_13 fX7_25 rfl gg_38 rfl ?_
  refine V_iload_n (pc := 16) dX7_readsText_16 rfl rfl ?_
  refine V_iald (pc := 17) dX7_readsText_17 gg_44 (by decide) (by decide) (fun r17 => ?_)
  rw [show (ms_ (ms_ σ 38 7 0) 45 0 0) 44 (0 : Int).toNat = L from by rw [ms_nk (by decide), ms_nk (by decide)]; exact hT.1] at r17 ⊢
  refine V_if_le (tgt := 25) (pc := 18) dX7_readsText_18 (by decide) (by constructor <;> omega) (fun h18 => ?_) (fun h18 => ?_)
  · skip
    refine V_iconst (pc := 25) dX7_readsText_25 ?_
    refine V_istore_n (pc := 26) dX7_readsText_26 rfl (by decide) rfl ?_
    show V_ _ _ _ _ _ [_, _, _, _] _ _
    refine V_iload_n (pc := 27) dX7_readsText_27 rfl rfl ?_
    refine V_if_eq (tgt := 120) (pc := 28) dX7_readsText_28 (by decide) (by constructor <;> omega) (fun h28 => ?_) (fun h28 => by exact absurd h28 (by decide))
    refine V_iconst (pc := 120) dX7_readsText_120 ?_
    refine V_ireturn (pc := 121) dX7_readsText_121 rfl rfl (fun hR => ?_)
    have hL0 : L = 0 := by omega
    have hfa : fa_ 0 L b = -1 := fa_all hL.1 (fun j hjL => absurd hjL (by omega)) (Or.inl hL0)
    have hit : it_ 0 L b = 0 := by unfold it_; rw [if_pos hfa, hL0]; rfl
    rw [← hfa]
    exact hK _ (by rw [ms_eq, hit]) (fun k hk => by rw [hit] at hk; omega) FT_.rf.at.many
  · skip
    refine V_iconst (pc := 21) dX7_readsText_21 ?_
    refine V_goto (tgt := 26) (pc := 22) dX7_readsText_22 (by decide) ?_
    refine V_istore_n (pc := 26) dX7_readsText_26 rfl (by decide) rfl ?_
    show V_ _ _ _ _ _ [_, _, _, _] _ _
    refine V_rg (fun hR0 => ?_)
    exact V_cg (lp_X7_readsText_0 hL hK 6 0 rfl _ hR0 ((hT.ms (by decide) (by decide)).ms (by decide) (by decide)) (by rw [ms_nk (by decide), ms_eq]; rfl) (by rw [ms_eq]; rfl) (by simp; exact hL.1) (by omega) (fun j hj => absurd hj (by omega)) (fun k hk => absurd hk (Nat.not_lt_zero _)) FT_.rf.at.many) (by simp) rfl rfl
theorem lp_X7_readsText_1 {L : Int} {b : Nat → Int} (hL : 0 ≤ L ∧ L ≤ 39) (hK : ∀ τ, τ 45 1 = it_ 1 L b → (∀ k : Nat, (k : Int) < it_ 1 L b → AK_ 1 L b τ k) → FT_ 1 σ τ → post (some (vi_ (fa_ 1 L b))) τ) : ∀ n m : Nat, n + m = 8 → ∀ τ, RM_ τ → MT_ 1 L b τ → τ 38 7 = ((m * 5 : Nat) : Int) → τ 45 1 = (m : Int) → ((m * 5 : Nat) : Int) ≤ L → 0 < L → (∀ j, j < m * 5 → ok_ 1 L b j = true) → (∀ k, k < m → AK_ 1 L b τ k) → FT_ 1 σ τ → V_ l D mX7_readsText (CM_ D mX7_readsText post) 27 [some (vr_ 38), some (vi_ 1), some (vi_ 1), none] [] τ := by
  intro n
  induction n with
  | zero => intro m hm τ hR hT hq hm2 hle h0 hj hA hF; omega
  | succ n ih =>
    intro m hm τ hR hT hq hm2 hle h0 hj hA hF
    have hm3 : m < 8 := by omega
    refine V_iload_n (pc := 27) dX7_readsText_27 rfl rfl ?_
    refine V_if_eq (tgt := 120) (pc := 28) dX7_readsText_28 (by decide) (by constructor <;> omega) (fun h28 => by exact absurd h28 (by decide)) (fun h28 => ?_)
    refine V_aload_n (pc := 31) dX7_readsText_31 rfl rfl ?_
    refine V_iload_n (pc := 32) dX7_readsText_32 rfl rfl ?_
    refine V_callV (pc := 33) (as := [_]) (rest := []) dX7_readsText_33 ⟨kX7_116, iX7_readsThing, by decide, by decide⟩ rc_38 rfl rfl (Nat.le_of_ble_eq_true rfl) (Nat.le_of_ble_eq_true rfl) ?_
    refine ct_X7_readsThing_1 hT hL hq hm2 hm3 hR (fun p hp hjp hn => ?_) (fun ho => ?_)
    · show V_ _ _ _ _ _ _ [_] _
      refine V_istore_n (pc := 36) dX7_readsText_36 rfl (by decide) rfl ?_
      show V_ _ _ _ _ _ [_, _, _, _] _ _
      refine V_iload_n (pc := 37) dX7_readsText_37 rfl rfl ?_
      refine V_if_eq (tgt := 58) (pc := 38) dX7_readsText_38 (by decide) (by constructor <;> omega) (fun h38 => ?_) (fun h38 => by exact absurd h38 (by decide))
      refine V_iconst (pc := 58) dX7_readsText_58 ?_
      refine V_istore_n (pc := 59) dX7_readsText_59 rfl (by decide) rfl ?_
      show V_ _ _ _ _ _ [_, _, _, _] _ _
      refine V_iload_n (pc := 60) dX7_readsText_60 rfl rfl ?_
      refine V_if_eq (tgt := 87) (pc := 61) dX7_readsText_61 (by decide) (by constructor <;> omega) (fun h61 => ?_) (fun h61 => by exact absurd h61 (by decide))
      refine V_aload_n (pc := 87) dX7_readsText_87 rfl rfl ?_
      refine V_getr (pc := 88) dX7_readsText_88 fX7_28 rfl gg_38 rfl ?_
      refine V_iload_n (pc := 91) dX7_readsText_91 rfl rfl ?_
      refine V_iconst (pc := 92) dX7_readsText_92 ?_
      refine V_iast (pc := 93) dX7_readsText_93 gg_45 (by decide) (by decide) (by constructor <;> omega) ?_
      rw [show (1 : Int).toNat = 1 from rfl]
      refine V_aload_n (pc := 94) dX7_readsText_94 rfl rfl ?_
      refine V_geti (pc := 95) dX7_readsText_95 fX7_94 rfl gg_38 rfl (fun r95 => ?_)
      rw [ms_nk (by decide), ms_eq] at r95 ⊢
      refine V_ireturn (pc := 98) dX7_readsText_98 rfl rfl (fun hR => ?_)
      have hpl : ((m * 5 + p : Nat) : Int) ≤ L := by
        by_cases c : p = 0
        · subst c; exact hle
        · have := ok_lt (hjp (p - 1) (by omega))
          omega
      have hfa : fa_ 1 L b = ((m * 5 + p : Nat) : Int) := fa_at hL.1 hpl (fun j hjj => by
        by_cases c : j < m * 5
        · exact hj j c
        · have := hjp (j - m * 5) (by omega)
          rw [show m * 5 + (j - m * 5) = j by omega] at this
          exact this) hn (fun z => by rw [show ((sp_ 1 : Nat) : Int) = 5 from rfl] at z; omega)
      have hit : it_ 1 L b = 0 := by unfold it_; rw [if_neg (by omega)]
      rw [← hfa]
      exact hK _ (by rw [ms_eq, hit]) (fun k hk => by rw [hit] at hk; omega) hF.at.many
    · show V_ _ _ _ _ _ _ [_] _
      obtain ⟨ρ, hρ⟩ : ∃ ρ, ρ = (ms_ (ms_ (ms_ (ms_ (ms_ τ 38 7 ((m * 5 + 4 : Nat) : Int)) 47 (3 * m) (fg_ L b ((m * 5 : Nat) : Int))) 47 (3 * m + 1) (if ba_ L b ((m * 5 + 2 : Nat) : Int) = 100 then (1 : Int) else 0)) 47 (3 * m + 2) (if ba_ L b ((m * 5 + 3 : Nat) : Int) = 46 then (-1 : Int) else ba_ L b ((m * 5 + 3 : Nat) : Int) - 97)) 45 1 ((m : Int) + 1)) := ⟨_, rfl⟩
      rw [← hρ]
      refine V_rg (fun hRρ => ?_)
      have hFr : FT_ 1 σ ρ := by rw [hρ]; exact (((hF.at.arr rfl).arr rfl).arr rfl).many
      have hq2 : ρ 38 7 = ((m * 5 + 4 : Nat) : Int) := by rw [hρ]; simp [ms_]
      have hm4 : ρ 45 1 = (m : Int) + 1 := by rw [hρ, ms_eq]
      have hT2 : MT_ 1 L b ρ := hT.cg (by rw [hρ]; simp only [ms_rw, ne_eq, Nat.reduceEqDiff, not_false_eq_true]) (by rw [hρ]; simp only [ms_rw, ne_eq, Nat.reduceEqDiff, not_false_eq_true])
      have hA2 : ∀ k, k < m + 1 → AK_ 1 L b ρ k := by
        intro k hk
        by_cases c : k = m
        · subst c
          exact ⟨by rw [hρ]; simp [ms_], by rw [hρ]; simp [ms_], by rw [hρ]; simp [ms_]⟩
        · have := hA k (by omega)
          refine ⟨?_, ?_, ?_⟩
          · rw [hρ]
            have n1 : ¬ 3 * k = 3 * m := by omega
            have n2 : ¬ 3 * k = 3 * m + 1 := by omega
            have n3 : ¬ 3 * k = 3 * m + 2 := by omega
            rw [ms_nk (by decide), ms_ne (fun z => n3 z.2), ms_ne (fun z => n2 z.2), ms_ne (fun z => n1 z.2), ms_nk (by decide)]
            exact this.1
          · rw [hρ]
            have n1 : ¬ 3 * k + 1 = 3 * m := by omega
            have n2 : ¬ 3 * k + 1 = 3 * m + 1 := by omega
            have n3 : ¬ 3 * k + 1 = 3 * m + 2 := by omega
            rw [ms_nk (by decide), ms_ne (fun z => n3 z.2), ms_ne (fun z => n2 z.2), ms_ne (fun z => n1 z.2), ms_nk (by decide)]
            exact this.2.1
          · rw [hρ]
            have n1 : ¬ 3 * k + 2 = 3 * m := by omega
            have n2 : ¬ 3 * k + 2 = 3 * m + 1 := by omega
            have n3 : ¬ 3 * k + 2 = 3 * m + 2 := by omega
            rw [ms_nk (by decide), ms_ne (fun z => n3 z.2), ms_ne (fun z => n2 z.2), ms_ne (fun z => n1 z.2), ms_nk (by decide)]
            exact this.2.2
      have hjj : ∀ j, j < m * 5 + 4 → ok_ 1 L b j = true := by
        intro j hjj
        by_cases c : j < m * 5
        · exact hj j c
        · have := ho (j - m * 5) (by omega)
          rw [show m * 5 + (j - m * 5) = j by omega] at this
          exact this
      have hel : ((m * 5 + 4 : Nat) : Int) ≤ L := by
        have := ok_lt (hjj (m * 5 + 3) (by omega))
        omega
      refine V_istore_n (pc := 36) dX7_readsText_36 rfl (by decide) rfl ?_
      show V_ _ _ _ _ _ [_, _, _, _] _ _
      refine V_iload_n (pc := 37) dX7_readsText_37 rfl rfl ?_
      refine V_if_eq (tgt := 58) (pc := 38) dX7_readsText_38 (by decide) (by constructor <;> omega) (fun h38 => by exact absurd h38 (by decide)) (fun h38 => ?_)
      refine V_aload_n (pc := 41) dX7_readsText_41 rfl rfl ?_
      refine V_geti (pc := 42) dX7_readsText_42 fX7_94 rfl gg_38 rfl (fun r42 => ?_)
      rw [hq2] at r42 ⊢
      refine V_aload_n (pc := 45) dX7_readsText_45 rfl rfl ?_
      refine V_getr (pc := 46) dX7_readsText_46 fX7_25 rfl gg_38 rfl ?_
      refine V_iload_n (pc := 49) dX7_readsText_49 rfl rfl ?_
      refine V_iald (pc := 50) dX7_readsText_50 gg_44 (by decide) (by decide) (fun r50 => ?_)
      rw [show ρ 44 (1 : Int).toNat = L from hT2.1] at r50 ⊢
      refine V_icmp_ge (tgt := 58) (pc := 51) dX7_readsText_51 (by decide) (by constructor <;> omega) (by constructor <;> omega) (fun h51 => ?_) (fun h51 => ?_)
      · skip
        refine V_iconst (pc := 58) dX7_readsText_58 ?_
        refine V_istore_n (pc := 59) dX7_readsText_59 rfl (by decide) rfl ?_
        show V_ _ _ _ _ _ [_, _, _, _] _ _
        refine V_iload_n (pc := 60) dX7_readsText_60 rfl rfl ?_
        refine V_if_eq (tgt := 87) (pc := 61) dX7_readsText_61 (by decide) (by constructor <;> omega) (fun h61 => by exact absurd h61 (by decide)) (fun h61 => ?_)
        refine V_iload_n (pc := 64) dX7_readsText_64 rfl rfl ?_
        refine V_if_eq (tgt := 99) (pc := 65) dX7_readsText_65 (by decide) (by constructor <;> omega) (fun h65 => ?_) (fun h65 => by exact absurd h65 (by decide))
        refine V_aload_n (pc := 99) dX7_readsText_99 rfl rfl ?_
        refine V_dup (pc := 100) dX7_readsText_100 rfl ?_
        refine V_geti (pc := 101) dX7_readsText_101 fX7_94 rfl gg_38 rfl (fun r101 => ?_)
        rw [hq2] at r101 ⊢
        refine V_iload_n (pc := 104) dX7_readsText_104 rfl rfl ?_
        refine V_if_eq (tgt := 112) (pc := 105) dX7_readsText_105 (by decide) (by constructor <;> omega) (fun h105 => ?_) (fun h105 => by exact absurd h105 (by decide))
        refine V_iconst (pc := 112) dX7_readsText_112 ?_
        refine V_iadd (pc := 113) dX7_readsText_113 ?_
        refine V_puti (pc := 114) dX7_readsText_114 fX7_94 rfl gg_38 rfl pq_7_7 rfl rfl (by constructor <;> omega) ?_
        refine V_goto (tgt := 27) (pc := 117) dX7_readsText_117 (by decide) ?_
        refine V_iload_n (pc := 27) dX7_readsText_27 rfl rfl ?_
        refine V_if_eq (tgt := 120) (pc := 28) dX7_readsText_28 (by decide) (by constructor <;> omega) (fun h28 => ?_) (fun h28 => by exact absurd h28 (by decide))
        refine V_iconst (pc := 120) dX7_readsText_120 ?_
        refine V_ireturn (pc := 121) dX7_readsText_121 rfl rfl (fun hR => ?_)
        have hLe : L = ((m * 5 + 4 : Nat) : Int) := by omega
        have hfa : fa_ 1 L b = -1 := fa_all hL.1 (fun j hjL => hjj j (by omega)) (Or.inr (by rw [show ((sp_ 1 : Nat) : Int) = 5 from rfl]; omega))
        have hit : it_ 1 L b = (m : Int) + 1 := by unfold it_; rw [if_pos hfa, show ((sp_ 1 : Nat) : Int) = 5 from rfl]; omega
        rw [← hfa]
        exact hK _ (by rw [ms_nk (by decide), hit]; exact hm4) (fun k hk => by
          have := hA2 k (by omega)
          unfold AK_ at this ⊢
          simp only [ms_nk, ne_eq, Nat.reduceEqDiff, not_false_eq_true]
          exact this) hFr.at
      · skip
        refine V_iconst (pc := 54) dX7_readsText_54 ?_
        refine V_goto (tgt := 59) (pc := 55) dX7_readsText_55 (by decide) ?_
        refine V_istore_n (pc := 59) dX7_readsText_59 rfl (by decide) rfl ?_
        show V_ _ _ _ _ _ [_, _, _, _] _ _
        refine V_iload_n (pc := 60) dX7_readsText_60 rfl rfl ?_
        refine V_if_eq (tgt := 87) (pc := 61) dX7_readsText_61 (by decide) (by constructor <;> omega) (fun h61 => by exact absurd h61 (by decide)) (fun h61 => ?_)
        refine V_iload_n (pc := 64) dX7_readsText_64 rfl rfl ?_
        refine V_if_eq (tgt := 99) (pc := 65) dX7_readsText_65 (by decide) (by constructor <;> omega) (fun h65 => by exact absurd h65 (by decide)) (fun h65 => ?_)
        refine V_aload_n (pc := 68) dX7_readsText_68 rfl rfl ?_
        refine V_getr (pc := 69) dX7_readsText_69 fX7_22 rfl gg_38 rfl ?_
        refine V_bipush (pc := 72) dX7_readsText_72 (by decide) ?_
        refine V_iload_n (pc := 74) dX7_readsText_74 rfl rfl ?_
        refine V_imul (pc := 75) dX7_readsText_75 ?_
        refine V_aload_n (pc := 76) dX7_readsText_76 rfl rfl ?_
        refine V_geti (pc := 77) dX7_readsText_77 fX7_94 rfl gg_38 rfl (fun r77 => ?_)
        rw [hq2] at r77 ⊢
        refine V_iadd (pc := 80) dX7_readsText_80 ?_
        refine V_iald (pc := 81) dX7_readsText_81 gg_43 (by have : ((180 : Nat) : Int) = 180 := rfl; omega) (by decide) (fun r81 => ?_)
        rw [show (60 * 1 + ((m * 5 + 4 : Nat) : Int)).toNat = 60 * 1 + (m * 5 + 4) by omega, hT2.2 (m * 5 + 4) (by omega)] at r81 ⊢
        refine V_bipush (pc := 82) dX7_readsText_82 (by decide) ?_
        refine V_icmp_eq (tgt := 99) (pc := 84) dX7_readsText_84 (by decide) (by constructor <;> omega) (by constructor <;> omega) (fun h84 => ?_) (fun h84 => ?_)
        · skip
          have hoe : ok_ 1 L b (m * 5 + 4) = true := ox_1_4.mpr (by unfold ba_; rw [if_pos (by omega)]; exact h84)
          refine V_aload_n (pc := 99) dX7_readsText_99 rfl rfl ?_
          refine V_dup (pc := 100) dX7_readsText_100 rfl ?_
          refine V_geti (pc := 101) dX7_readsText_101 fX7_94 rfl gg_38 rfl (fun r101 => ?_)
          rw [hq2] at r101 ⊢
          refine V_iload_n (pc := 104) dX7_readsText_104 rfl rfl ?_
          refine V_if_eq (tgt := 112) (pc := 105) dX7_readsText_105 (by decide) (by constructor <;> omega) (fun h105 => by exact absurd h105 (by decide)) (fun h105 => ?_)
          refine V_iconst (pc := 108) dX7_readsText_108 ?_
          refine V_goto (tgt := 113) (pc := 109) dX7_readsText_109 (by decide) ?_
          refine V_iadd (pc := 113) dX7_readsText_113 ?_
          refine V_puti (pc := 114) dX7_readsText_114 fX7_94 rfl gg_38 rfl pq_7_7 rfl rfl (by constructor <;> omega) ?_
          refine V_goto (tgt := 27) (pc := 117) dX7_readsText_117 (by decide) ?_
          refine V_none (k := 3) ?_
          show V_ _ _ _ _ _ [_, _, _, _] _ _
          refine V_rg (fun hRr0 => ?_)
          have hRr : RM_ ρ := hRρ
          exact V_cg (ih (m + 1) (by omega) _ (RM_.ms hRr (by constructor <;> omega)) (hT2.ms (by decide) (by decide)) (by rw [ms_eq]; omega) (by rw [ms_nk (by decide), hm4]; omega) (by omega) h0 (fun j hjx => by
            by_cases c : j = m * 5 + 4
            · rw [c]; exact hoe
            · exact hjj j (by omega)) (fun k hk => by
            have := hA2 k hk
            unfold AK_ at this ⊢
            simp only [ms_nk, ne_eq, Nat.reduceEqDiff, not_false_eq_true]
            exact this) hFr.at) (by simp) rfl rfl
        · skip
          have hoe : ok_ 1 L b (m * 5 + 4) = false := by
            cases hc : ok_ 1 L b (m * 5 + 4) with
            | false => rfl
            | true =>
              have hx := ox_1_4.mp hc
              unfold ba_ at hx
              rw [if_pos (by omega)] at hx
              exact absurd hx h84
          refine V_aload_n (pc := 87) dX7_readsText_87 rfl rfl ?_
          refine V_getr (pc := 88) dX7_readsText_88 fX7_28 rfl gg_38 rfl ?_
          refine V_iload_n (pc := 91) dX7_readsText_91 rfl rfl ?_
          refine V_iconst (pc := 92) dX7_readsText_92 ?_
          refine V_iast (pc := 93) dX7_readsText_93 gg_45 (by decide) (by decide) (by constructor <;> omega) ?_
          rw [show (1 : Int).toNat = 1 from rfl]
          refine V_aload_n (pc := 94) dX7_readsText_94 rfl rfl ?_
          refine V_geti (pc := 95) dX7_readsText_95 fX7_94 rfl gg_38 rfl (fun r95 => ?_)
          rw [ms_nk (by decide), hq2] at r95 ⊢
          refine V_ireturn (pc := 98) dX7_readsText_98 rfl rfl (fun hR => ?_)
          have hfa : fa_ 1 L b = ((m * 5 + 4 : Nat) : Int) := fa_at hL.1 hel hjj hoe (fun z => by omega)
          have hit : it_ 1 L b = 0 := by unfold it_; rw [if_neg (by omega)]
          rw [← hfa]
          exact hK _ (by rw [ms_eq, hit]) (fun k hk => by rw [hit] at hk; omega) hFr.many
theorem ct_X7_readsText_1 {L : Int} {b : Nat → Int} (hL : 0 ≤ L ∧ L ≤ 39) (hT : MT_ 1 L b σ) (hK : ∀ τ, τ 45 1 = it_ 1 L b → (∀ k : Nat, (k : Int) < it_ 1 L b → AK_ 1 L b τ k) → FT_ 1 σ τ → post (some (vi_ (fa_ 1 L b))) τ) : V_ l D mX7_readsText (CM_ D mX7_readsText post) 0 [some (vr_ 38), some (vi_ 1), none, none] [] σ := by
  refine V_aload_n (pc := 0) dX7_readsText_0 rfl rfl ?_
  refine V_iconst (pc := 1) dX7_readsText_1 ?_
  refine V_puti (pc := 2) dX7_readsText_2 fX7_94 rfl gg_38 rfl pq_7_7 rfl rfl (by constructor <;> omega) ?_
  refine V_aload_n (pc := 5) dX7_readsText_5 rfl rfl ?_
  refine V_getr (pc := 6) dX7_readsText_6 fX7_28 rfl gg_38 rfl ?_
  refine V_iload_n (pc := 9) dX7_readsText_9 rfl rfl ?_
  refine V_iconst (pc := 10) dX7_readsText_10 ?_
  refine V_iast (pc := 11) dX7_readsText_11 gg_45 (by decide) (by decide) (by constructor <;> omega) ?_
  rw [show (1 : Int).toNat = 1 from rfl]
  refine V_aload_n (pc := 12) dX7_readsText_12 rfl rfl ?_
  refine V_getr (pc := 13) dX7_readsText_13 fX7_25 rfl gg_38 rfl ?_
  refine V_iload_n (pc := 16) dX7_readsText_16 rfl rfl ?_
  refine V_iald (pc := 17) dX7_readsText_17 gg_44 (by decide) (by decide) (fun r17 => ?_)
  rw [show (ms_ (ms_ σ 38 7 0) 45 1 0) 44 (1 : Int).toNat = L from by rw [ms_nk (by decide), ms_nk (by decide)]; exact hT.1] at r17 ⊢
  refine V_if_le (tgt := 25) (pc := 18) dX7_readsText_18 (by decide) (by constructor <;> omega) (fun h18 => ?_) (fun h18 => ?_)
  · skip
    refine V_iconst (pc := 25) dX7_readsText_25 ?_
    refine V_istore_n (pc := 26) dX7_readsText_26 rfl (by decide) rfl ?_
    show V_ _ _ _ _ _ [_, _, _, _] _ _
    refine V_iload_n (pc := 27) dX7_readsText_27 rfl rfl ?_
    refine V_if_eq (tgt := 120) (pc := 28) dX7_readsText_28 (by decide) (by constructor <;> omega) (fun h28 => ?_) (fun h28 => by exact absurd h28 (by decide))
    refine V_iconst (pc := 120) dX7_readsText_120 ?_
    refine V_ireturn (pc := 121) dX7_readsText_121 rfl rfl (fun hR => ?_)
    have hL0 : L = 0 := by omega
    have hfa : fa_ 1 L b = -1 := fa_all hL.1 (fun j hjL => absurd hjL (by omega)) (Or.inl hL0)
    have hit : it_ 1 L b = 0 := by unfold it_; rw [if_pos hfa, hL0]; rfl
    rw [← hfa]
    exact hK _ (by rw [ms_eq, hit]) (fun k hk => by rw [hit] at hk; omega) FT_.rf.at.many
  · skip
    refine V_iconst (pc := 21) dX7_readsText_21 ?_
    refine V_goto (tgt := 26) (pc := 22) dX7_readsText_22 (by decide) ?_
    refine V_istore_n (pc := 26) dX7_readsText_26 rfl (by decide) rfl ?_
    show V_ _ _ _ _ _ [_, _, _, _] _ _
    refine V_rg (fun hR0 => ?_)
    exact V_cg (lp_X7_readsText_1 hL hK 8 0 rfl _ hR0 ((hT.ms (by decide) (by decide)).ms (by decide) (by decide)) (by rw [ms_nk (by decide), ms_eq]; rfl) (by rw [ms_eq]; rfl) (by simp; exact hL.1) (by omega) (fun j hj => absurd hj (by omega)) (fun k hk => absurd hk (Nat.not_lt_zero _)) FT_.rf.at.many) (by simp) rfl rfl
theorem lp_X7_readsText_2 {L : Int} {b : Nat → Int} (hL : 0 ≤ L ∧ L ≤ 59) (hK : ∀ τ, τ 45 2 = it_ 2 L b → (∀ k : Nat, (k : Int) < it_ 2 L b → AK_ 2 L b τ k) → FT_ 2 σ τ → post (some (vi_ (fa_ 2 L b))) τ) : ∀ n m : Nat, n + m = 12 → ∀ τ, RM_ τ → MT_ 2 L b τ → τ 38 7 = ((m * 5 : Nat) : Int) → τ 45 2 = (m : Int) → ((m * 5 : Nat) : Int) ≤ L → 0 < L → (∀ j, j < m * 5 → ok_ 2 L b j = true) → (∀ k, k < m → AK_ 2 L b τ k) → FT_ 2 σ τ → V_ l D mX7_readsText (CM_ D mX7_readsText post) 27 [some (vr_ 38), some (vi_ 2), some (vi_ 1), none] [] τ := by
  intro n
  induction n with
  | zero => intro m hm τ hR hT hq hm2 hle h0 hj hA hF; omega
  | succ n ih =>
    intro m hm τ hR hT hq hm2 hle h0 hj hA hF
    have hm3 : m < 12 := by omega
    refine V_iload_n (pc := 27) dX7_readsText_27 rfl rfl ?_
    refine V_if_eq (tgt := 120) (pc := 28) dX7_readsText_28 (by decide) (by constructor <;> omega) (fun h28 => by exact absurd h28 (by decide)) (fun h28 => ?_)
    refine V_aload_n (pc := 31) dX7_readsText_31 rfl rfl ?_
    refine V_iload_n (pc := 32) dX7_readsText_32 rfl rfl ?_
    refine V_callV (pc := 33) (as := [_]) (rest := []) dX7_readsText_33 ⟨kX7_116, iX7_readsThing, by decide, by decide⟩ rc_38 rfl rfl (Nat.le_of_ble_eq_true rfl) (Nat.le_of_ble_eq_true rfl) ?_
    refine ct_X7_readsThing_2 hT hL hq hm2 hm3 hR (fun p hp hjp hn => ?_) (fun ho => ?_)
    · show V_ _ _ _ _ _ _ [_] _
      refine V_istore_n (pc := 36) dX7_readsText_36 rfl (by decide) rfl ?_
      show V_ _ _ _ _ _ [_, _, _, _] _ _
      refine V_iload_n (pc := 37) dX7_readsText_37 rfl rfl ?_
      refine V_if_eq (tgt := 58) (pc := 38) dX7_readsText_38 (by decide) (by constructor <;> omega) (fun h38 => ?_) (fun h38 => by exact absurd h38 (by decide))
      refine V_iconst (pc := 58) dX7_readsText_58 ?_
      refine V_istore_n (pc := 59) dX7_readsText_59 rfl (by decide) rfl ?_
      show V_ _ _ _ _ _ [_, _, _, _] _ _
      refine V_iload_n (pc := 60) dX7_readsText_60 rfl rfl ?_
      refine V_if_eq (tgt := 87) (pc := 61) dX7_readsText_61 (by decide) (by constructor <;> omega) (fun h61 => ?_) (fun h61 => by exact absurd h61 (by decide))
      refine V_aload_n (pc := 87) dX7_readsText_87 rfl rfl ?_
      refine V_getr (pc := 88) dX7_readsText_88 fX7_28 rfl gg_38 rfl ?_
      refine V_iload_n (pc := 91) dX7_readsText_91 rfl rfl ?_
      refine V_iconst (pc := 92) dX7_readsText_92 ?_
      refine V_iast (pc := 93) dX7_readsText_93 gg_45 (by decide) (by decide) (by constructor <;> omega) ?_
      rw [show (2 : Int).toNat = 2 from rfl]
      refine V_aload_n (pc := 94) dX7_readsText_94 rfl rfl ?_
      refine V_geti (pc := 95) dX7_readsText_95 fX7_94 rfl gg_38 rfl (fun r95 => ?_)
      rw [ms_nk (by decide), ms_eq] at r95 ⊢
      refine V_ireturn (pc := 98) dX7_readsText_98 rfl rfl (fun hR => ?_)
      have hpl : ((m * 5 + p : Nat) : Int) ≤ L := by
        by_cases c : p = 0
        · subst c; exact hle
        · have := ok_lt (hjp (p - 1) (by omega))
          omega
      have hfa : fa_ 2 L b = ((m * 5 + p : Nat) : Int) := fa_at hL.1 hpl (fun j hjj => by
        by_cases c : j < m * 5
        · exact hj j c
        · have := hjp (j - m * 5) (by omega)
          rw [show m * 5 + (j - m * 5) = j by omega] at this
          exact this) hn (fun z => by rw [show ((sp_ 2 : Nat) : Int) = 5 from rfl] at z; omega)
      have hit : it_ 2 L b = 0 := by unfold it_; rw [if_neg (by omega)]
      rw [← hfa]
      exact hK _ (by rw [ms_eq, hit]) (fun k hk => by rw [hit] at hk; omega) hF.at.many
    · show V_ _ _ _ _ _ _ [_] _
      obtain ⟨ρ, hρ⟩ : ∃ ρ, ρ = (ms_ (ms_ (ms_ (ms_ (ms_ τ 38 7 ((m * 5 + 4 : Nat) : Int)) 48 (3 * m) (ba_ L b ((m * 5 : Nat) : Int) - 48)) 48 (3 * m + 1) (ba_ L b ((m * 5 + 1 : Nat) : Int) - 97)) 48 (3 * m + 2) (fg_ L b ((m * 5 + 2 : Nat) : Int))) 45 2 ((m : Int) + 1)) := ⟨_, rfl⟩
      rw [← hρ]
      refine V_rg (fun hRρ => ?_)
      have hFr : FT_ 2 σ ρ := by rw [hρ]; exact (((hF.at.arr rfl).arr rfl).arr rfl).many
      have hq2 : ρ 38 7 = ((m * 5 + 4 : Nat) : Int) := by rw [hρ]; simp [ms_]
      have hm4 : ρ 45 2 = (m : Int) + 1 := by rw [hρ, ms_eq]
      have hT2 : MT_ 2 L b ρ := hT.cg (by rw [hρ]; simp only [ms_rw, ne_eq, Nat.reduceEqDiff, not_false_eq_true]) (by rw [hρ]; simp only [ms_rw, ne_eq, Nat.reduceEqDiff, not_false_eq_true])
      have hA2 : ∀ k, k < m + 1 → AK_ 2 L b ρ k := by
        intro k hk
        by_cases c : k = m
        · subst c
          exact ⟨by rw [hρ]; simp [ms_], by rw [hρ]; simp [ms_], by rw [hρ]; simp [ms_]⟩
        · have := hA k (by omega)
          refine ⟨?_, ?_, ?_⟩
          · rw [hρ]
            have n1 : ¬ 3 * k = 3 * m := by omega
            have n2 : ¬ 3 * k = 3 * m + 1 := by omega
            have n3 : ¬ 3 * k = 3 * m + 2 := by omega
            rw [ms_nk (by decide), ms_ne (fun z => n3 z.2), ms_ne (fun z => n2 z.2), ms_ne (fun z => n1 z.2), ms_nk (by decide)]
            exact this.1
          · rw [hρ]
            have n1 : ¬ 3 * k + 1 = 3 * m := by omega
            have n2 : ¬ 3 * k + 1 = 3 * m + 1 := by omega
            have n3 : ¬ 3 * k + 1 = 3 * m + 2 := by omega
            rw [ms_nk (by decide), ms_ne (fun z => n3 z.2), ms_ne (fun z => n2 z.2), ms_ne (fun z => n1 z.2), ms_nk (by decide)]
            exact this.2.1
          · rw [hρ]
            have n1 : ¬ 3 * k + 2 = 3 * m := by omega
            have n2 : ¬ 3 * k + 2 = 3 * m + 1 := by omega
            have n3 : ¬ 3 * k + 2 = 3 * m + 2 := by omega
            rw [ms_nk (by decide), ms_ne (fun z => n3 z.2), ms_ne (fun z => n2 z.2), ms_ne (fun z => n1 z.2), ms_nk (by decide)]
            exact this.2.2
      have hjj : ∀ j, j < m * 5 + 4 → ok_ 2 L b j = true := by
        intro j hjj
        by_cases c : j < m * 5
        · exact hj j c
        · have := ho (j - m * 5) (by omega)
          rw [show m * 5 + (j - m * 5) = j by omega] at this
          exact this
      have hel : ((m * 5 + 4 : Nat) : Int) ≤ L := by
        have := ok_lt (hjj (m * 5 + 3) (by omega))
        omega
      refine V_istore_n (pc := 36) dX7_readsText_36 rfl (by decide) rfl ?_
      show V_ _ _ _ _ _ [_, _, _, _] _ _
      refine V_iload_n (pc := 37) dX7_readsText_37 rfl rfl ?_
      refine V_if_eq (tgt := 58) (pc := 38) dX7_readsText_38 (by decide) (by constructor <;> omega) (fun h38 => by exact absurd h38 (by decide)) (fun h38 => ?_)
      refine V_aload_n (pc := 41) dX7_readsText_41 rfl rfl ?_
      refine V_geti (pc := 42) dX7_readsText_42 fX7_94 rfl gg_38 rfl (fun r42 => ?_)
      rw [hq2] at r42 ⊢
      refine V_aload_n (pc := 45) dX7_readsText_45 rfl rfl ?_
      refine V_getr (pc := 46) dX7_readsText_46 fX7_25 rfl gg_38 rfl ?_
      refine V_iload_n (pc := 49) dX7_readsText_49 rfl rfl ?_
      refine V_iald (pc := 50) dX7_readsText_50 gg_44 (by decide) (by decide) (fun r50 => ?_)
      rw [show ρ 44 (2 : Int).toNat = L from hT2.1] at r50 ⊢
      refine V_icmp_ge (tgt := 58) (pc := 51) dX7_readsText_51 (by decide) (by constructor <;> omega) (by constructor <;> omega) (fun h51 => ?_) (fun h51 => ?_)
      · skip
        refine V_iconst (pc := 58) dX7_readsText_58 ?_
        refine V_istore_n (pc := 59) dX7_readsText_59 rfl (by decide) rfl ?_
        show V_ _ _ _ _ _ [_, _, _, _] _ _
        refine V_iload_n (pc := 60) dX7_readsText_60 rfl rfl ?_
        refine V_if_eq (tgt := 87) (pc := 61) dX7_readsText_61 (by decide) (by constructor <;> omega) (fun h61 => by exact absurd h61 (by decide)) (fun h61 => ?_)
        refine V_iload_n (pc := 64) dX7_readsText_64 rfl rfl ?_
        refine V_if_eq (tgt := 99) (pc := 65) dX7_readsText_65 (by decide) (by constructor <;> omega) (fun h65 => ?_) (fun h65 => by exact absurd h65 (by decide))
        refine V_aload_n (pc := 99) dX7_readsText_99 rfl rfl ?_
        refine V_dup (pc := 100) dX7_readsText_100 rfl ?_
        refine V_geti (pc := 101) dX7_readsText_101 fX7_94 rfl gg_38 rfl (fun r101 => ?_)
        rw [hq2] at r101 ⊢
        refine V_iload_n (pc := 104) dX7_readsText_104 rfl rfl ?_
        refine V_if_eq (tgt := 112) (pc := 105) dX7_readsText_105 (by decide) (by constructor <;> omega) (fun h105 => ?_) (fun h105 => by exact absurd h105 (by decide))
        refine V_iconst (pc := 112) dX7_readsText_112 ?_
        refine V_iadd (pc := 113) dX7_readsText_113 ?_
        refine V_puti (pc := 114) dX7_readsText_114 fX7_94 rfl gg_38 rfl pq_7_7 rfl rfl (by constructor <;> omega) ?_
        refine V_goto (tgt := 27) (pc := 117) dX7_readsText_117 (by decide) ?_
        refine V_iload_n (pc := 27) dX7_readsText_27 rfl rfl ?_
        refine V_if_eq (tgt := 120) (pc := 28) dX7_readsText_28 (by decide) (by constructor <;> omega) (fun h28 => ?_) (fun h28 => by exact absurd h28 (by decide))
        refine V_iconst (pc := 120) dX7_readsText_120 ?_
        refine V_ireturn (pc := 121) dX7_readsText_121 rfl rfl (fun hR => ?_)
        have hLe : L = ((m * 5 + 4 : Nat) : Int) := by omega
        have hfa : fa_ 2 L b = -1 := fa_all hL.1 (fun j hjL => hjj j (by omega)) (Or.inr (by rw [show ((sp_ 2 : Nat) : Int) = 5 from rfl]; omega))
        have hit : it_ 2 L b = (m : Int) + 1 := by unfold it_; rw [if_pos hfa, show ((sp_ 2 : Nat) : Int) = 5 from rfl]; omega
        rw [← hfa]
        exact hK _ (by rw [ms_nk (by decide), hit]; exact hm4) (fun k hk => by
          have := hA2 k (by omega)
          unfold AK_ at this ⊢
          simp only [ms_nk, ne_eq, Nat.reduceEqDiff, not_false_eq_true]
          exact this) hFr.at
      · skip
        refine V_iconst (pc := 54) dX7_readsText_54 ?_
        refine V_goto (tgt := 59) (pc := 55) dX7_readsText_55 (by decide) ?_
        refine V_istore_n (pc := 59) dX7_readsText_59 rfl (by decide) rfl ?_
        show V_ _ _ _ _ _ [_, _, _, _] _ _
        refine V_iload_n (pc := 60) dX7_readsText_60 rfl rfl ?_
        refine V_if_eq (tgt := 87) (pc := 61) dX7_readsText_61 (by decide) (by constructor <;> omega) (fun h61 => by exact absurd h61 (by decide)) (fun h61 => ?_)
        refine V_iload_n (pc := 64) dX7_readsText_64 rfl rfl ?_
        refine V_if_eq (tgt := 99) (pc := 65) dX7_readsText_65 (by decide) (by constructor <;> omega) (fun h65 => by exact absurd h65 (by decide)) (fun h65 => ?_)
        refine V_aload_n (pc := 68) dX7_readsText_68 rfl rfl ?_
        refine V_getr (pc := 69) dX7_readsText_69 fX7_22 rfl gg_38 rfl ?_
        refine V_bipush (pc := 72) dX7_readsText_72 (by decide) ?_
        refine V_iload_n (pc := 74) dX7_readsText_74 rfl rfl ?_
        refine V_imul (pc := 75) dX7_readsText_75 ?_
        refine V_aload_n (pc := 76) dX7_readsText_76 rfl rfl ?_
        refine V_geti (pc := 77) dX7_readsText_77 fX7_94 rfl gg_38 rfl (fun r77 => ?_)
        rw [hq2] at r77 ⊢
        refine V_iadd (pc := 80) dX7_readsText_80 ?_
        refine V_iald (pc := 81) dX7_readsText_81 gg_43 (by have : ((180 : Nat) : Int) = 180 := rfl; omega) (by decide) (fun r81 => ?_)
        rw [show (60 * 2 + ((m * 5 + 4 : Nat) : Int)).toNat = 60 * 2 + (m * 5 + 4) by omega, hT2.2 (m * 5 + 4) (by omega)] at r81 ⊢
        refine V_bipush (pc := 82) dX7_readsText_82 (by decide) ?_
        refine V_icmp_eq (tgt := 99) (pc := 84) dX7_readsText_84 (by decide) (by constructor <;> omega) (by constructor <;> omega) (fun h84 => ?_) (fun h84 => ?_)
        · skip
          have hoe : ok_ 2 L b (m * 5 + 4) = true := ox_2_4.mpr (by unfold ba_; rw [if_pos (by omega)]; exact h84)
          refine V_aload_n (pc := 99) dX7_readsText_99 rfl rfl ?_
          refine V_dup (pc := 100) dX7_readsText_100 rfl ?_
          refine V_geti (pc := 101) dX7_readsText_101 fX7_94 rfl gg_38 rfl (fun r101 => ?_)
          rw [hq2] at r101 ⊢
          refine V_iload_n (pc := 104) dX7_readsText_104 rfl rfl ?_
          refine V_if_eq (tgt := 112) (pc := 105) dX7_readsText_105 (by decide) (by constructor <;> omega) (fun h105 => by exact absurd h105 (by decide)) (fun h105 => ?_)
          refine V_iconst (pc := 108) dX7_readsText_108 ?_
          refine V_goto (tgt := 113) (pc := 109) dX7_readsText_109 (by decide) ?_
          refine V_iadd (pc := 113) dX7_readsText_113 ?_
          refine V_puti (pc := 114) dX7_readsText_114 fX7_94 rfl gg_38 rfl pq_7_7 rfl rfl (by constructor <;> omega) ?_
          refine V_goto (tgt := 27) (pc := 117) dX7_readsText_117 (by decide) ?_
          refine V_none (k := 3) ?_
          show V_ _ _ _ _ _ [_, _, _, _] _ _
          refine V_rg (fun hRr0 => ?_)
          have hRr : RM_ ρ := hRρ
          exact V_cg (ih (m + 1) (by omega) _ (RM_.ms hRr (by constructor <;> omega)) (hT2.ms (by decide) (by decide)) (by rw [ms_eq]; omega) (by rw [ms_nk (by decide), hm4]; omega) (by omega) h0 (fun j hjx => by
            by_cases c : j = m * 5 + 4
            · rw [c]; exact hoe
            · exact hjj j (by omega)) (fun k hk => by
            have := hA2 k hk
            unfold AK_ at this ⊢
            simp only [ms_nk, ne_eq, Nat.reduceEqDiff, not_false_eq_true]
            exact this) hFr.at) (by simp) rfl rfl
        · skip
          have hoe : ok_ 2 L b (m * 5 + 4) = false := by
            cases hc : ok_ 2 L b (m * 5 + 4) with
            | false => rfl
            | true =>
              have hx := ox_2_4.mp hc
              unfold ba_ at hx
              rw [if_pos (by omega)] at hx
              exact absurd hx h84
          refine V_aload_n (pc := 87) dX7_readsText_87 rfl rfl ?_
          refine V_getr (pc := 88) dX7_readsText_88 fX7_28 rfl gg_38 rfl ?_
          refine V_iload_n (pc := 91) dX7_readsText_91 rfl rfl ?_
          refine V_iconst (pc := 92) dX7_readsText_92 ?_
          refine V_iast (pc := 93) dX7_readsText_93 gg_45 (by decide) (by decide) (by constructor <;> omega) ?_
          rw [show (2 : Int).toNat = 2 from rfl]
          refine V_aload_n (pc := 94) dX7_readsText_94 rfl rfl ?_
          refine V_geti (pc := 95) dX7_readsText_95 fX7_94 rfl gg_38 rfl (fun r95 => ?_)
          rw [ms_nk (by decide), hq2] at r95 ⊢
          refine V_ireturn (pc := 98) dX7_readsText_98 rfl rfl (fun hR => ?_)
          have hfa : fa_ 2 L b = ((m * 5 + 4 : Nat) : Int) := fa_at hL.1 hel hjj hoe (fun z => by omega)
          have hit : it_ 2 L b = 0 := by unfold it_; rw [if_neg (by omega)]
          rw [← hfa]
          exact hK _ (by rw [ms_eq, hit]) (fun k hk => by rw [hit] at hk; omega) hFr.many
theorem ct_X7_readsText_2 {L : Int} {b : Nat → Int} (hL : 0 ≤ L ∧ L ≤ 59) (hT : MT_ 2 L b σ) (hK : ∀ τ, τ 45 2 = it_ 2 L b → (∀ k : Nat, (k : Int) < it_ 2 L b → AK_ 2 L b τ k) → FT_ 2 σ τ → post (some (vi_ (fa_ 2 L b))) τ) : V_ l D mX7_readsText (CM_ D mX7_readsText post) 0 [some (vr_ 38), some (vi_ 2), none, none] [] σ := by
  refine V_aload_n (pc := 0) dX7_readsText_0 rfl rfl ?_
  refine V_iconst (pc := 1) dX7_readsText_1 ?_
  refine V_puti (pc := 2) dX7_readsText_2 fX7_94 rfl gg_38 rfl pq_7_7 rfl rfl (by constructor <;> omega) ?_
  refine V_aload_n (pc := 5) dX7_readsText_5 rfl rfl ?_
  refine V_getr (pc := 6) dX7_readsText_6 fX7_28 rfl gg_38 rfl ?_
  refine V_iload_n (pc := 9) dX7_readsText_9 rfl rfl ?_
  refine V_iconst (pc := 10) dX7_readsText_10 ?_
  refine V_iast (pc := 11) dX7_readsText_11 gg_45 (by decide) (by decide) (by constructor <;> omega) ?_
  rw [show (2 : Int).toNat = 2 from rfl]
  refine V_aload_n (pc := 12) dX7_readsText_12 rfl rfl ?_
  refine V_getr (pc := 13) dX7_readsText_13 fX7_25 rfl gg_38 rfl ?_
  refine V_iload_n (pc := 16) dX7_readsText_16 rfl rfl ?_
  refine V_iald (pc := 17) dX7_readsText_17 gg_44 (by decide) (by decide) (fun r17 => ?_)
  rw [show (ms_ (ms_ σ 38 7 0) 45 2 0) 44 (2 : Int).toNat = L from by rw [ms_nk (by decide), ms_nk (by decide)]; exact hT.1] at r17 ⊢
  refine V_if_le (tgt := 25) (pc := 18) dX7_readsText_18 (by decide) (by constructor <;> omega) (fun h18 => ?_) (fun h18 => ?_)
  · skip
    refine V_iconst (pc := 25) dX7_readsText_25 ?_
    refine V_istore_n (pc := 26) dX7_readsText_26 rfl (by decide) rfl ?_
    show V_ _ _ _ _ _ [_, _, _, _] _ _
    refine V_iload_n (pc := 27) dX7_readsText_27 rfl rfl ?_
    refine V_if_eq (tgt := 120) (pc := 28) dX7_readsText_28 (by decide) (by constructor <;> omega) (fun h28 => ?_) (fun h28 => by exact absurd h28 (by decide))
    refine V_iconst (pc := 120) dX7_readsText_120 ?_
    refine V_ireturn (pc := 121) dX7_readsText_121 rfl rfl (fun hR => ?_)
    have hL0 : L = 0 := by omega
    have hfa : fa_ 2 L b = -1 := fa_all hL.1 (fun j hjL => absurd hjL (by omega)) (Or.inl hL0)
    have hit : it_ 2 L b = 0 := by unfold it_; rw [if_pos hfa, hL0]; rfl
    rw [← hfa]
    exact hK _ (by rw [ms_eq, hit]) (fun k hk => by rw [hit] at hk; omega) FT_.rf.at.many
  · skip
    refine V_iconst (pc := 21) dX7_readsText_21 ?_
    refine V_goto (tgt := 26) (pc := 22) dX7_readsText_22 (by decide) ?_
    refine V_istore_n (pc := 26) dX7_readsText_26 rfl (by decide) rfl ?_
    show V_ _ _ _ _ _ [_, _, _, _] _ _
    refine V_rg (fun hR0 => ?_)
    exact V_cg (lp_X7_readsText_2 hL hK 12 0 rfl _ hR0 ((hT.ms (by decide) (by decide)).ms (by decide) (by decide)) (by rw [ms_nk (by decide), ms_eq]; rfl) (by rw [ms_eq]; rfl) (by simp; exact hL.1) (by omega) (fun j hj => absurd hj (by omega)) (fun k hk => absurd hk (Nat.not_lt_zero _)) FT_.rf.at.many) (by simp) rfl rfl
end
