/-! ## class DrownedNames: digest -/
def dg_ (h z : Int) : Int := 31 * h + nz_ z
def ds_ (a : Mm_) (h : Int) (k : Int) : Int := dg_ (dg_ (dg_ (dg_ (dg_ (dg_ h (an_ship a k 0)) (an_ship a k 1)) (an_unborne a k)) (an_borne a k 0)) (an_paid a 9 k)) (an_take a k)
def dn_ (a : Mm_) (h : Int) (k : Int) : Int :=
  let h1 := fo_ (fun j h => dg_ h (an_name a k (j : Int))) 3 h
  let h2 := fo_ (fun j h => dg_ h (an_bearer a k (j : Int))) 3 h1
  let h3 := dg_ (dg_ h2 (an_left a 9 k)) (an_strike a 0 k)
  let h4 := 31 * (31 * (31 * (31 * h3 + an_fair a k 0) + an_fair a k 1) + an_storm a k 9 0) + an_storm a k 9 1
  dg_ (dg_ h4 (an_years a 7 9 k 0)) (an_years a 7 9 k 1)
def dy_ (a : Mm_) (h : Int) (y : Int) : Int := dg_ (dg_ h (an_behind a y 0)) (an_behind a y 1)
noncomputable def e5_ (a : Mm_) (h : Int) : Int := dg_ (dg_ (dg_ (dg_ (dg_ (dg_ (dy_ a (dy_ a (dy_ a h 0) 9) 29) (an_first a 0)) (an_first a 1)) (an_safe a)) (an_sound a 0)) (an_sound a 1)) (an_press a)
noncomputable def e4_ (a : Mm_) (h : Int) : Int := e5_ a (fo_ (fun j h => fo_ (fun q h => dg_ h (an_line a (j : Int) (q : Int))) 4 h) (vv_ a 7 0).toNat h)
noncomputable def e3_ (a : Mm_) (h : Int) : Int := e4_ a (fo_ (fun j h => dn_ a h (j : Int)) (vv_ a 3 0).toNat h)
noncomputable def e2_ (a : Mm_) (h : Int) : Int := e3_ a (fo_ (fun j h => ds_ a h (j : Int)) (vv_ a 0 0).toNat h)
noncomputable def e1_ (a : Mm_) (h : Int) : Int := e2_ a (fo_ (fun j h => dg_ h (an_fault a (j : Int))) 3 h)
noncomputable def an_digest (a : Mm_) : Int := e1_ a (fo_ (fun j h => dg_ h (an_count a (j : Int))) 8 17)
section
variable {l : Launch} {D : Dt_} {a σ : Mm_} {post : Option Av_ → Mm_ → Prop}
theorem V_i2ln {y : Mt_} {C : Cp_} {pc : Nat} {ls : List (Option Av_)} {st : List Av_} {z : Int} (hd : decode y.2.1 pc = .ok (.i2l, 1)) (h : V_ l D y C (pc + 1) ls (vl_ (nz_ z) :: st) σ) : V_ l D y C pc ls (vi_ z :: st) σ := V_nrm (V_i2l hd (nz_rg z) h)
theorem ct_X6_withShip {g k : Int} (hk : Rg_ k) (h : CR_ a σ) (hK : ∀ σ1, CR_ a σ1 → Fm_ σ σ1 → post (some (vl_ (ds_ a g k))) σ1) : V_ l D mX6_withShip (CM_ D mX6_withShip post) 0 [some (vr_ 0), some (vl_ g), none, some (vi_ k), none, none] [] σ := by
  have hc := h
  have hf : Fm_ σ σ := Fm_.rf
  refine V_lload_n (pc := 0) dX6_withShip_0 rfl rfl ?_
  refine V_lstore (pc := 1) dX6_withShip_1 (by decide) rfl ?_
  show V_ _ _ _ _ _ [_, _, _, _, _, _] _ _
  refine V_ldc2 (v := (31)) (z := 31) (pc := 3) dX6_withShip_3 (tb_in 704 (by decide +kernel) rfl) (by decide +kernel) ?_
  refine V_lload (pc := 6) dX6_withShip_6 rfl ?_
  refine V_lmul (pc := 8) dX6_withShip_8 ?_
  refine V_aload_n (pc := 9) dX6_withShip_9 rfl rfl ?_
  refine V_iload_n (pc := 10) dX6_withShip_10 rfl rfl ?_
  refine V_iconst (pc := 11) dX6_withShip_11 ?_
  refine V_callV (pc := 12) (as := [_, _]) (rest := [_]) dX6_withShip_12 ⟨kX6_322, iX6_ship, by decide, by decide⟩ rc_0 rfl rfl (Nat.le_of_ble_eq_true rfl) (Nat.le_of_ble_eq_true rfl) ?_
  refine ct_X6_ship (by first | decide | (constructor <;> omega)) (by first | decide | (constructor <;> omega)) hc (fun σ1 hc1 hf1 => ?_)
  have hf := hf.tr hf1
  have hc := hc1
  show V_ _ _ _ _ _ _ [_, _] _
  refine V_i2ln (pc := 15) dX6_withShip_15 ?_
  refine V_ladd (pc := 16) dX6_withShip_16 ?_
  refine V_lstore (pc := 17) dX6_withShip_17 (by decide) rfl ?_
  show V_ _ _ _ _ _ [_, _, _, _, _, _] _ _
  refine V_ldc2 (v := (31)) (z := 31) (pc := 19) dX6_withShip_19 (tb_in 704 (by decide +kernel) rfl) (by decide +kernel) ?_
  refine V_lload (pc := 22) dX6_withShip_22 rfl ?_
  refine V_lmul (pc := 24) dX6_withShip_24 ?_
  refine V_aload_n (pc := 25) dX6_withShip_25 rfl rfl ?_
  refine V_iload_n (pc := 26) dX6_withShip_26 rfl rfl ?_
  refine V_iconst (pc := 27) dX6_withShip_27 ?_
  refine V_callV (pc := 28) (as := [_, _]) (rest := [_]) dX6_withShip_28 ⟨kX6_322, iX6_ship, by decide, by decide⟩ rc_0 rfl rfl (Nat.le_of_ble_eq_true rfl) (Nat.le_of_ble_eq_true rfl) ?_
  refine ct_X6_ship (by first | decide | (constructor <;> omega)) (by first | decide | (constructor <;> omega)) hc (fun σ1 hc1 hf1 => ?_)
  have hf := hf.tr hf1
  have hc := hc1
  show V_ _ _ _ _ _ _ [_, _] _
  refine V_i2ln (pc := 31) dX6_withShip_31 ?_
  refine V_ladd (pc := 32) dX6_withShip_32 ?_
  refine V_lstore (pc := 33) dX6_withShip_33 (by decide) rfl ?_
  show V_ _ _ _ _ _ [_, _, _, _, _, _] _ _
  refine V_ldc2 (v := (31)) (z := 31) (pc := 35) dX6_withShip_35 (tb_in 704 (by decide +kernel) rfl) (by decide +kernel) ?_
  refine V_lload (pc := 38) dX6_withShip_38 rfl ?_
  refine V_lmul (pc := 40) dX6_withShip_40 ?_
  refine V_aload_n (pc := 41) dX6_withShip_41 rfl rfl ?_
  refine V_iload_n (pc := 42) dX6_withShip_42 rfl rfl ?_
  refine V_callV (pc := 43) (as := [_]) (rest := [_]) dX6_withShip_43 ⟨kX6_325, iX6_unborne, by decide, by decide⟩ rc_0 rfl rfl (Nat.le_of_ble_eq_true rfl) (Nat.le_of_ble_eq_true rfl) ?_
  refine ct_X6_unborne (by first | decide | (constructor <;> omega)) hc (fun σ1 hc1 hf1 => ?_)
  have hf := hf.tr hf1
  have hc := hc1
  show V_ _ _ _ _ _ _ [_, _] _
  refine V_i2ln (pc := 46) dX6_withShip_46 ?_
  refine V_ladd (pc := 47) dX6_withShip_47 ?_
  refine V_lstore (pc := 48) dX6_withShip_48 (by decide) rfl ?_
  show V_ _ _ _ _ _ [_, _, _, _, _, _] _ _
  refine V_ldc2 (v := (31)) (z := 31) (pc := 50) dX6_withShip_50 (tb_in 704 (by decide +kernel) rfl) (by decide +kernel) ?_
  refine V_lload (pc := 53) dX6_withShip_53 rfl ?_
  refine V_lmul (pc := 55) dX6_withShip_55 ?_
  refine V_aload_n (pc := 56) dX6_withShip_56 rfl rfl ?_
  refine V_iload_n (pc := 57) dX6_withShip_57 rfl rfl ?_
  refine V_iconst (pc := 58) dX6_withShip_58 ?_
  refine V_callV (pc := 59) (as := [_, _]) (rest := [_]) dX6_withShip_59 ⟨kX6_328, iX6_borne, by decide, by decide⟩ rc_0 rfl rfl (Nat.le_of_ble_eq_true rfl) (Nat.le_of_ble_eq_true rfl) ?_
  refine ct_X6_borne (by first | decide | (constructor <;> omega)) (by first | decide | (constructor <;> omega)) hc (fun σ1 hc1 hf1 => ?_)
  have hf := hf.tr hf1
  have hc := hc1
  show V_ _ _ _ _ _ _ [_, _] _
  refine V_i2ln (pc := 62) dX6_withShip_62 ?_
  refine V_ladd (pc := 63) dX6_withShip_63 ?_
  refine V_lstore (pc := 64) dX6_withShip_64 (by decide) rfl ?_
  show V_ _ _ _ _ _ [_, _, _, _, _, _] _ _
  refine V_ldc2 (v := (31)) (z := 31) (pc := 66) dX6_withShip_66 (tb_in 704 (by decide +kernel) rfl) (by decide +kernel) ?_
  refine V_lload (pc := 69) dX6_withShip_69 rfl ?_
  refine V_lmul (pc := 71) dX6_withShip_71 ?_
  refine V_aload_n (pc := 72) dX6_withShip_72 rfl rfl ?_
  refine V_bipush (pc := 73) dX6_withShip_73 (by decide) ?_
  refine V_iload_n (pc := 75) dX6_withShip_75 rfl rfl ?_
  refine V_callV (pc := 76) (as := [_, _]) (rest := [_]) dX6_withShip_76 ⟨kX6_331, iX6_paid, by decide, by decide⟩ rc_0 rfl rfl (Nat.le_of_ble_eq_true rfl) (Nat.le_of_ble_eq_true rfl) ?_
  refine ct_X6_paid (by first | decide | (constructor <;> omega)) (by first | decide | (constructor <;> omega)) hc (fun σ1 hc1 hf1 => ?_)
  have hf := hf.tr hf1
  have hc := hc1
  show V_ _ _ _ _ _ _ [_, _] _
  refine V_i2ln (pc := 79) dX6_withShip_79 ?_
  refine V_ladd (pc := 80) dX6_withShip_80 ?_
  refine V_lstore (pc := 81) dX6_withShip_81 (by decide) rfl ?_
  show V_ _ _ _ _ _ [_, _, _, _, _, _] _ _
  refine V_ldc2 (v := (31)) (z := 31) (pc := 83) dX6_withShip_83 (tb_in 704 (by decide +kernel) rfl) (by decide +kernel) ?_
  refine V_lload (pc := 86) dX6_withShip_86 rfl ?_
  refine V_lmul (pc := 88) dX6_withShip_88 ?_
  refine V_aload_n (pc := 89) dX6_withShip_89 rfl rfl ?_
  refine V_iload_n (pc := 90) dX6_withShip_90 rfl rfl ?_
  refine V_callV (pc := 91) (as := [_]) (rest := [_]) dX6_withShip_91 ⟨kX6_333, iX6_take, by decide, by decide⟩ rc_0 rfl rfl (Nat.le_of_ble_eq_true rfl) (Nat.le_of_ble_eq_true rfl) ?_
  refine ct_X6_take (by first | decide | (constructor <;> omega)) hc (fun σ1 hc1 hf1 => ?_)
  have hf := hf.tr hf1
  have hc := hc1
  show V_ _ _ _ _ _ _ [_, _] _
  refine V_i2ln (pc := 94) dX6_withShip_94 ?_
  refine V_ladd (pc := 95) dX6_withShip_95 ?_
  refine V_lreturn (pc := 96) dX6_withShip_96 rfl (fun hR => ?_)
  exact hK _ hc hf
theorem ct_X6_withYear {g k : Int} (hk : Rg_ k) (h : CR_ a σ) (hK : ∀ σ1, CR_ a σ1 → Fm_ σ σ1 → post (some (vl_ (dy_ a g k))) σ1) : V_ l D mX6_withYear (CM_ D mX6_withYear post) 0 [some (vr_ 0), some (vl_ g), none, some (vi_ k), none, none] [] σ := by
  have hc := h
  have hf : Fm_ σ σ := Fm_.rf
  refine V_ldc2 (v := (31)) (z := 31) (pc := 0) dX6_withYear_0 (tb_in 704 (by decide +kernel) rfl) (by decide +kernel) ?_
  refine V_lload_n (pc := 3) dX6_withYear_3 rfl rfl ?_
  refine V_lmul (pc := 4) dX6_withYear_4 ?_
  refine V_aload_n (pc := 5) dX6_withYear_5 rfl rfl ?_
  refine V_iload_n (pc := 6) dX6_withYear_6 rfl rfl ?_
  refine V_iconst (pc := 7) dX6_withYear_7 ?_
  refine V_callV (pc := 8) (as := [_, _]) (rest := [_]) dX6_withYear_8 ⟨kX6_357, iX6_behind, by decide, by decide⟩ rc_0 rfl rfl (Nat.le_of_ble_eq_true rfl) (Nat.le_of_ble_eq_true rfl) ?_
  refine ct_X6_behind (by first | decide | (constructor <;> omega)) (by first | decide | (constructor <;> omega)) hc (fun σ1 hc1 hf1 => ?_)
  have hf := hf.tr hf1
  have hc := hc1
  show V_ _ _ _ _ _ _ [_, _] _
  refine V_i2ln (pc := 11) dX6_withYear_11 ?_
  refine V_ladd (pc := 12) dX6_withYear_12 ?_
  refine V_lstore (pc := 13) dX6_withYear_13 (by decide) rfl ?_
  show V_ _ _ _ _ _ [_, _, _, _, _, _] _ _
  refine V_ldc2 (v := (31)) (z := 31) (pc := 15) dX6_withYear_15 (tb_in 704 (by decide +kernel) rfl) (by decide +kernel) ?_
  refine V_lload (pc := 18) dX6_withYear_18 rfl ?_
  refine V_lmul (pc := 20) dX6_withYear_20 ?_
  refine V_aload_n (pc := 21) dX6_withYear_21 rfl rfl ?_
  refine V_iload_n (pc := 22) dX6_withYear_22 rfl rfl ?_
  refine V_iconst (pc := 23) dX6_withYear_23 ?_
  refine V_callV (pc := 24) (as := [_, _]) (rest := [_]) dX6_withYear_24 ⟨kX6_357, iX6_behind, by decide, by decide⟩ rc_0 rfl rfl (Nat.le_of_ble_eq_true rfl) (Nat.le_of_ble_eq_true rfl) ?_
  refine ct_X6_behind (by first | decide | (constructor <;> omega)) (by first | decide | (constructor <;> omega)) hc (fun σ1 hc1 hf1 => ?_)
  have hf := hf.tr hf1
  have hc := hc1
  show V_ _ _ _ _ _ _ [_, _] _
  refine V_i2ln (pc := 27) dX6_withYear_27 ?_
  refine V_ladd (pc := 28) dX6_withYear_28 ?_
  refine V_lreturn (pc := 29) dX6_withYear_29 rfl (fun hR => ?_)
  exact hK _ hc hf
theorem lq_X6_withName {g k : Int} (hk : Rg_ k) (hK : ∀ σ1, CR_ a σ1 → Fm_ σ σ1 → post (some (vl_ (dn_ a g k))) σ1) : ∀ i : Nat, i ≤ 3 → ∀ τ, CR_ a τ → Fm_ σ τ → V_ l D mX6_withName (CM_ D mX6_withName post) 38 [some (vr_ 0), some (vl_ g), none, some (vi_ k), some (vl_ (fo_ (fun j h => dg_ h (an_bearer a k (j : Int))) i (fo_ (fun j h => dg_ h (an_name a k (j : Int))) 3 g))), none, some (vi_ (i : Int))] [] τ := by
  refine up_ _ (fun i hi ih τ hc hf => ?_)
  refine V_iload (pc := 38) dX6_withName_38 rfl ?_
  refine V_iconst (pc := 40) dX6_withName_40 ?_
  refine V_icmp_gt (tgt := 67) (pc := 41) dX6_withName_41 (by decide) (by first | decide | (constructor <;> omega)) (by first | decide | (constructor <;> omega)) (fun h41 => ?_) (fun h41 => ?_)
  · skip
    refine V_ldc2 (v := (31)) (z := 31) (pc := 67) dX6_withName_67 (tb_in 704 (by decide +kernel) rfl) (by decide +kernel) ?_
    refine V_lload (pc := 70) dX6_withName_70 rfl ?_
    refine V_lmul (pc := 72) dX6_withName_72 ?_
    refine V_aload_n (pc := 73) dX6_withName_73 rfl rfl ?_
    refine V_bipush (pc := 74) dX6_withName_74 (by decide) ?_
    refine V_iload_n (pc := 76) dX6_withName_76 rfl rfl ?_
    refine V_callV (pc := 77) (as := [_, _]) (rest := [_]) dX6_withName_77 ⟨kX6_341, iX6_left, by decide, by decide⟩ rc_0 rfl rfl (Nat.le_of_ble_eq_true rfl) (Nat.le_of_ble_eq_true rfl) ?_
    refine ct_X6_left (by first | decide | (constructor <;> omega)) (by first | decide | (constructor <;> omega)) hc (fun σ1 hc1 hf1 => ?_)
    have hf := hf.tr hf1
    have hc := hc1
    show V_ _ _ _ _ _ _ [_, _] _
    refine V_i2ln (pc := 80) dX6_withName_80 ?_
    refine V_ladd (pc := 81) dX6_withName_81 ?_
    refine V_lstore (pc := 82) dX6_withName_82 (by decide) rfl ?_
    show V_ _ _ _ _ _ [_, _, _, _, _, _, _] _ _
    refine V_ldc2 (v := (31)) (z := 31) (pc := 84) dX6_withName_84 (tb_in 704 (by decide +kernel) rfl) (by decide +kernel) ?_
    refine V_lload (pc := 87) dX6_withName_87 rfl ?_
    refine V_lmul (pc := 89) dX6_withName_89 ?_
    refine V_aload_n (pc := 90) dX6_withName_90 rfl rfl ?_
    refine V_iconst (pc := 91) dX6_withName_91 ?_
    refine V_iload_n (pc := 92) dX6_withName_92 rfl rfl ?_
    refine V_callV (pc := 93) (as := [_, _]) (rest := [_]) dX6_withName_93 ⟨kX6_343, iX6_strike, by decide, by decide⟩ rc_0 rfl rfl (Nat.le_of_ble_eq_true rfl) (Nat.le_of_ble_eq_true rfl) ?_
    refine ct_X6_strike (by first | decide | (constructor <;> omega)) (by first | decide | (constructor <;> omega)) hc (fun σ1 hc1 hf1 => ?_)
    have hf := hf.tr hf1
    have hc := hc1
    show V_ _ _ _ _ _ _ [_, _] _
    refine V_i2ln (pc := 96) dX6_withName_96 ?_
    refine V_ladd (pc := 97) dX6_withName_97 ?_
    refine V_lstore (pc := 98) dX6_withName_98 (by decide) rfl ?_
    show V_ _ _ _ _ _ [_, _, _, _, _, _, _] _ _
    refine V_ldc2 (v := (31)) (z := 31) (pc := 100) dX6_withName_100 (tb_in 704 (by decide +kernel) rfl) (by decide +kernel) ?_
    refine V_lload (pc := 103) dX6_withName_103 rfl ?_
    refine V_lmul (pc := 105) dX6_withName_105 ?_
    refine V_aload_n (pc := 106) dX6_withName_106 rfl rfl ?_
    refine V_iload_n (pc := 107) dX6_withName_107 rfl rfl ?_
    refine V_iconst (pc := 108) dX6_withName_108 ?_
    refine V_callV (pc := 109) (as := [_, _]) (rest := [_]) dX6_withName_109 ⟨kX6_346, iX6_fair, by decide, by decide⟩ rc_0 rfl rfl (Nat.le_of_ble_eq_true rfl) (Nat.le_of_ble_eq_true rfl) ?_
    refine ct_X6_fair (by first | decide | (constructor <;> omega)) (by first | decide | (constructor <;> omega)) hc (fun σ1 hc1 hf1 => ?_)
    have hf := hf.tr hf1
    have hc := hc1
    show V_ _ _ _ _ _ _ [_, _] _
    refine V_ladd (pc := 112) dX6_withName_112 ?_
    refine V_lstore (pc := 113) dX6_withName_113 (by decide) rfl ?_
    show V_ _ _ _ _ _ [_, _, _, _, _, _, _] _ _
    refine V_ldc2 (v := (31)) (z := 31) (pc := 115) dX6_withName_115 (tb_in 704 (by decide +kernel) rfl) (by decide +kernel) ?_
    refine V_lload (pc := 118) dX6_withName_118 rfl ?_
    refine V_lmul (pc := 120) dX6_withName_120 ?_
    refine V_aload_n (pc := 121) dX6_withName_121 rfl rfl ?_
    refine V_iload_n (pc := 122) dX6_withName_122 rfl rfl ?_
    refine V_iconst (pc := 123) dX6_withName_123 ?_
    refine V_callV (pc := 124) (as := [_, _]) (rest := [_]) dX6_withName_124 ⟨kX6_346, iX6_fair, by decide, by decide⟩ rc_0 rfl rfl (Nat.le_of_ble_eq_true rfl) (Nat.le_of_ble_eq_true rfl) ?_
    refine ct_X6_fair (by first | decide | (constructor <;> omega)) (by first | decide | (constructor <;> omega)) hc (fun σ1 hc1 hf1 => ?_)
    have hf := hf.tr hf1
    have hc := hc1
    show V_ _ _ _ _ _ _ [_, _] _
    refine V_ladd (pc := 127) dX6_withName_127 ?_
    refine V_lstore (pc := 128) dX6_withName_128 (by decide) rfl ?_
    show V_ _ _ _ _ _ [_, _, _, _, _, _, _] _ _
    refine V_ldc2 (v := (31)) (z := 31) (pc := 130) dX6_withName_130 (tb_in 704 (by decide +kernel) rfl) (by decide +kernel) ?_
    refine V_lload (pc := 133) dX6_withName_133 rfl ?_
    refine V_lmul (pc := 135) dX6_withName_135 ?_
    refine V_aload_n (pc := 136) dX6_withName_136 rfl rfl ?_
    refine V_iload_n (pc := 137) dX6_withName_137 rfl rfl ?_
    refine V_bipush (pc := 138) dX6_withName_138 (by decide) ?_
    refine V_iconst (pc := 140) dX6_withName_140 ?_
    refine V_callV (pc := 141) (as := [_, _, _]) (rest := [_]) dX6_withName_141 ⟨kX6_350, iX6_storm, by decide, by decide⟩ rc_0 rfl rfl (Nat.le_of_ble_eq_true rfl) (Nat.le_of_ble_eq_true rfl) ?_
    refine ct_X6_storm (by first | decide | (constructor <;> omega)) (by first | decide | (constructor <;> omega)) (by first | decide | (constructor <;> omega)) hc (fun σ1 hc1 hf1 => ?_)
    have hf := hf.tr hf1
    have hc := hc1
    show V_ _ _ _ _ _ _ [_, _] _
    refine V_ladd (pc := 144) dX6_withName_144 ?_
    refine V_lstore (pc := 145) dX6_withName_145 (by decide) rfl ?_
    show V_ _ _ _ _ _ [_, _, _, _, _, _, _] _ _
    refine V_ldc2 (v := (31)) (z := 31) (pc := 147) dX6_withName_147 (tb_in 704 (by decide +kernel) rfl) (by decide +kernel) ?_
    refine V_lload (pc := 150) dX6_withName_150 rfl ?_
    refine V_lmul (pc := 152) dX6_withName_152 ?_
    refine V_aload_n (pc := 153) dX6_withName_153 rfl rfl ?_
    refine V_iload_n (pc := 154) dX6_withName_154 rfl rfl ?_
    refine V_bipush (pc := 155) dX6_withName_155 (by decide) ?_
    refine V_iconst (pc := 157) dX6_withName_157 ?_
    refine V_callV (pc := 158) (as := [_, _, _]) (rest := [_]) dX6_withName_158 ⟨kX6_350, iX6_storm, by decide, by decide⟩ rc_0 rfl rfl (Nat.le_of_ble_eq_true rfl) (Nat.le_of_ble_eq_true rfl) ?_
    refine ct_X6_storm (by first | decide | (constructor <;> omega)) (by first | decide | (constructor <;> omega)) (by first | decide | (constructor <;> omega)) hc (fun σ1 hc1 hf1 => ?_)
    have hf := hf.tr hf1
    have hc := hc1
    show V_ _ _ _ _ _ _ [_, _] _
    refine V_ladd (pc := 161) dX6_withName_161 ?_
    refine V_lstore (pc := 162) dX6_withName_162 (by decide) rfl ?_
    show V_ _ _ _ _ _ [_, _, _, _, _, _, _] _ _
    refine V_ldc2 (v := (31)) (z := 31) (pc := 164) dX6_withName_164 (tb_in 704 (by decide +kernel) rfl) (by decide +kernel) ?_
    refine V_lload (pc := 167) dX6_withName_167 rfl ?_
    refine V_lmul (pc := 169) dX6_withName_169 ?_
    refine V_aload_n (pc := 170) dX6_withName_170 rfl rfl ?_
    refine V_bipush (pc := 171) dX6_withName_171 (by decide) ?_
    refine V_bipush (pc := 173) dX6_withName_173 (by decide) ?_
    refine V_iload_n (pc := 175) dX6_withName_175 rfl rfl ?_
    refine V_iconst (pc := 176) dX6_withName_176 ?_
    refine V_callV (pc := 177) (as := [_, _, _, _]) (rest := [_]) dX6_withName_177 ⟨kX6_353, iX6_years, by decide, by decide⟩ rc_0 rfl rfl (Nat.le_of_ble_eq_true rfl) (Nat.le_of_ble_eq_true rfl) ?_
    refine ct_X6_years (by first | decide | (constructor <;> omega)) (by first | decide | (constructor <;> omega)) (by first | decide | (constructor <;> omega)) hc (fun σ1 hc1 hf1 => ?_)
    have hf := hf.tr hf1
    have hc := hc1
    show V_ _ _ _ _ _ _ [_, _] _
    refine V_i2ln (pc := 180) dX6_withName_180 ?_
    refine V_ladd (pc := 181) dX6_withName_181 ?_
    refine V_lstore (pc := 182) dX6_withName_182 (by decide) rfl ?_
    show V_ _ _ _ _ _ [_, _, _, _, _, _, _] _ _
    refine V_ldc2 (v := (31)) (z := 31) (pc := 184) dX6_withName_184 (tb_in 704 (by decide +kernel) rfl) (by decide +kernel) ?_
    refine V_lload (pc := 187) dX6_withName_187 rfl ?_
    refine V_lmul (pc := 189) dX6_withName_189 ?_
    refine V_aload_n (pc := 190) dX6_withName_190 rfl rfl ?_
    refine V_bipush (pc := 191) dX6_withName_191 (by decide) ?_
    refine V_bipush (pc := 193) dX6_withName_193 (by decide) ?_
    refine V_iload_n (pc := 195) dX6_withName_195 rfl rfl ?_
    refine V_iconst (pc := 196) dX6_withName_196 ?_
    refine V_callV (pc := 197) (as := [_, _, _, _]) (rest := [_]) dX6_withName_197 ⟨kX6_353, iX6_years, by decide, by decide⟩ rc_0 rfl rfl (Nat.le_of_ble_eq_true rfl) (Nat.le_of_ble_eq_true rfl) ?_
    refine ct_X6_years (by first | decide | (constructor <;> omega)) (by first | decide | (constructor <;> omega)) (by first | decide | (constructor <;> omega)) hc (fun σ1 hc1 hf1 => ?_)
    have hf := hf.tr hf1
    have hc := hc1
    show V_ _ _ _ _ _ _ [_, _] _
    refine V_i2ln (pc := 200) dX6_withName_200 ?_
    refine V_ladd (pc := 201) dX6_withName_201 ?_
    refine V_lreturn (pc := 202) dX6_withName_202 rfl (fun hR => ?_)
    rw [show i = 3 by omega]
    exact hK _ hc hf
  · skip
    refine V_ldc2 (v := (31)) (z := 31) (pc := 44) dX6_withName_44 (tb_in 704 (by decide +kernel) rfl) (by decide +kernel) ?_
    refine V_lload (pc := 47) dX6_withName_47 rfl ?_
    refine V_lmul (pc := 49) dX6_withName_49 ?_
    refine V_aload_n (pc := 50) dX6_withName_50 rfl rfl ?_
    refine V_iload_n (pc := 51) dX6_withName_51 rfl rfl ?_
    refine V_iload (pc := 52) dX6_withName_52 rfl ?_
    refine V_callV (pc := 54) (as := [_, _]) (rest := [_]) dX6_withName_54 ⟨kX6_339, iX6_bearer, by decide, by decide⟩ rc_0 rfl rfl (Nat.le_of_ble_eq_true rfl) (Nat.le_of_ble_eq_true rfl) ?_
    refine ct_X6_bearer (by first | decide | (constructor <;> omega)) (by first | decide | (constructor <;> omega)) hc (fun σ1 hc1 hf1 => ?_)
    have hf := hf.tr hf1
    have hc := hc1
    show V_ _ _ _ _ _ _ [_, _] _
    refine V_i2ln (pc := 57) dX6_withName_57 ?_
    refine V_ladd (pc := 58) dX6_withName_58 ?_
    refine V_lstore (pc := 59) dX6_withName_59 (by decide) rfl ?_
    show V_ _ _ _ _ _ [_, _, _, _, _, _, _] _ _
    refine V_iinc (pc := 61) dX6_withName_61 rfl (by decide) rfl ?_
    show V_ _ _ _ _ _ [_, _, _, _, _, _, _] _ _
    refine V_goto (tgt := 38) (pc := 64) dX6_withName_64 (by decide) ?_
    exact V_cg (ih (by omega) _ hc hf) (by simp [fo_, dg_]) rfl rfl
theorem lp_X6_withName {g k : Int} (hk : Rg_ k) (hK : ∀ σ1, CR_ a σ1 → Fm_ σ σ1 → post (some (vl_ (dn_ a g k))) σ1) : ∀ i : Nat, i ≤ 3 → ∀ τ, CR_ a τ → Fm_ σ τ → V_ l D mX6_withName (CM_ D mX6_withName post) 6 [some (vr_ 0), some (vl_ g), none, some (vi_ k), some (vl_ (fo_ (fun j h => dg_ h (an_name a k (j : Int))) i g)), none, some (vi_ (i : Int))] [] τ := by
  refine up_ _ (fun i hi ih τ hc hf => ?_)
  refine V_iload (pc := 6) dX6_withName_6 rfl ?_
  refine V_iconst (pc := 8) dX6_withName_8 ?_
  refine V_icmp_gt (tgt := 35) (pc := 9) dX6_withName_9 (by decide) (by first | decide | (constructor <;> omega)) (by first | decide | (constructor <;> omega)) (fun h9 => ?_) (fun h9 => ?_)
  · skip
    refine V_iconst (pc := 35) dX6_withName_35 ?_
    refine V_istore (pc := 36) dX6_withName_36 (by decide) rfl ?_
    show V_ _ _ _ _ _ [_, _, _, _, _, _, _] _ _
    exact V_cg (lq_X6_withName hk hK 0 (Nat.zero_le _) _ hc hf) (by rw [show i = 3 by omega]; simp [fo_]) rfl rfl
  · skip
    refine V_ldc2 (v := (31)) (z := 31) (pc := 12) dX6_withName_12 (tb_in 704 (by decide +kernel) rfl) (by decide +kernel) ?_
    refine V_lload (pc := 15) dX6_withName_15 rfl ?_
    refine V_lmul (pc := 17) dX6_withName_17 ?_
    refine V_aload_n (pc := 18) dX6_withName_18 rfl rfl ?_
    refine V_iload_n (pc := 19) dX6_withName_19 rfl rfl ?_
    refine V_iload (pc := 20) dX6_withName_20 rfl ?_
    refine V_callV (pc := 22) (as := [_, _]) (rest := [_]) dX6_withName_22 ⟨kX6_336, iX6_name, by decide, by decide⟩ rc_0 rfl rfl (Nat.le_of_ble_eq_true rfl) (Nat.le_of_ble_eq_true rfl) ?_
    refine ct_X6_name (by first | decide | (constructor <;> omega)) (by first | decide | (constructor <;> omega)) hc (fun σ1 hc1 hf1 => ?_)
    have hf := hf.tr hf1
    have hc := hc1
    show V_ _ _ _ _ _ _ [_, _] _
    refine V_i2ln (pc := 25) dX6_withName_25 ?_
    refine V_ladd (pc := 26) dX6_withName_26 ?_
    refine V_lstore (pc := 27) dX6_withName_27 (by decide) rfl ?_
    show V_ _ _ _ _ _ [_, _, _, _, _, _, _] _ _
    refine V_iinc (pc := 29) dX6_withName_29 rfl (by decide) rfl ?_
    show V_ _ _ _ _ _ [_, _, _, _, _, _, _] _ _
    refine V_goto (tgt := 6) (pc := 32) dX6_withName_32 (by decide) ?_
    exact V_cg (ih (by omega) _ hc hf) (by simp [fo_, dg_]) rfl rfl
theorem ct_X6_withName {g k : Int} (hk : Rg_ k) (h : CR_ a σ) (hK : ∀ σ1, CR_ a σ1 → Fm_ σ σ1 → post (some (vl_ (dn_ a g k))) σ1) : V_ l D mX6_withName (CM_ D mX6_withName post) 0 [some (vr_ 0), some (vl_ g), none, some (vi_ k), none, none, none] [] σ := by
  refine V_lload_n (pc := 0) dX6_withName_0 rfl rfl ?_
  refine V_lstore (pc := 1) dX6_withName_1 (by decide) rfl ?_
  show V_ _ _ _ _ _ [_, _, _, _, _, _, _] _ _
  refine V_iconst (pc := 3) dX6_withName_3 ?_
  refine V_istore (pc := 4) dX6_withName_4 (by decide) rfl ?_
  show V_ _ _ _ _ _ [_, _, _, _, _, _, _] _ _
  exact V_cg (lp_X6_withName hk hK 0 (Nat.zero_le _) _ h Fm_.rf) (by simp [fo_]) rfl rfl
theorem l6_X6_digest {g : Int} {y : Nat} (hy : y < (vv_ a 7 0).toNat) (hy2 : y ≤ 12) (hK : ∀ τ, CR_ a τ → Fm_ σ τ → V_ l D mX6_digest (CM_ D mX6_digest post) 152 [some (vr_ 0), some (vl_ (fo_ (fun q h => dg_ h (an_line a (y : Int) (q : Int))) 4 g)), none, some (vi_ (y : Int)), none] [] τ) : ∀ i : Nat, i ≤ 4 → ∀ τ, CR_ a τ → Fm_ σ τ → V_ l D mX6_digest (CM_ D mX6_digest post) 125 [some (vr_ 0), some (vl_ (fo_ (fun q h => dg_ h (an_line a (y : Int) (q : Int))) i g)), none, some (vi_ (y : Int)), some (vi_ (i : Int))] [] τ := by
  refine up_ _ (fun i hi ih τ hc hf => ?_)
  refine V_iload (pc := 125) dX6_digest_125 rfl ?_
  refine V_iconst (pc := 127) dX6_digest_127 ?_
  refine V_icmp_gt (tgt := 152) (pc := 128) dX6_digest_128 (by decide) (by first | decide | (constructor <;> omega)) (by first | decide | (constructor <;> omega)) (fun h128 => ?_) (fun h128 => ?_)
  · skip
    refine V_none (k := 4) ?_
    show V_ _ _ _ _ _ [_, _, _, _, _] _ _
    exact V_cg (hK _ hc hf) (by rw [show i = 4 by omega]) rfl rfl
  · skip
    refine V_ldc2 (v := (31)) (z := 31) (pc := 131) dX6_digest_131 (tb_in 704 (by decide +kernel) rfl) (by decide +kernel) ?_
    refine V_lload_n (pc := 134) dX6_digest_134 rfl rfl ?_
    refine V_lmul (pc := 135) dX6_digest_135 ?_
    refine V_aload_n (pc := 136) dX6_digest_136 rfl rfl ?_
    refine V_iload_n (pc := 137) dX6_digest_137 rfl rfl ?_
    refine V_iload (pc := 138) dX6_digest_138 rfl ?_
    refine V_callV (pc := 140) (as := [_, _]) (rest := [_]) dX6_digest_140 ⟨kX6_304, iX6_line, by decide, by decide⟩ rc_0 rfl rfl (Nat.le_of_ble_eq_true rfl) (Nat.le_of_ble_eq_true rfl) ?_
    refine ct_X6_line (by first | decide | (constructor <;> omega)) (by first | decide | (constructor <;> omega)) hc (fun σ1 hc1 hf1 => ?_)
    have hf := hf.tr hf1
    have hc := hc1
    show V_ _ _ _ _ _ _ [_, _] _
    refine V_i2ln (pc := 143) dX6_digest_143 ?_
    refine V_ladd (pc := 144) dX6_digest_144 ?_
    refine V_lstore_n (pc := 145) dX6_digest_145 rfl (by decide) rfl ?_
    show V_ _ _ _ _ _ [_, _, _, _, _] _ _
    refine V_iinc (pc := 146) dX6_digest_146 rfl (by decide) rfl ?_
    show V_ _ _ _ _ _ [_, _, _, _, _] _ _
    refine V_goto (tgt := 125) (pc := 149) dX6_digest_149 (by decide) ?_
    exact V_cg (ih (by omega) _ hc hf) (by simp [fo_, dg_]) rfl rfl
theorem l5_X6_digest {g : Int} (hA : AW_ a) (hK : ∀ σ1, CR_ a σ1 → Fm_ σ σ1 → post (some (vl_ (e4_ a g))) σ1) : ∀ i : Nat, i ≤ (vv_ a 7 0).toNat → ∀ τ, CR_ a τ → Fm_ σ τ → V_ l D mX6_digest (CM_ D mX6_digest post) 111 [some (vr_ 0), some (vl_ (fo_ (fun j h => fo_ (fun q h => dg_ h (an_line a (j : Int) (q : Int))) 4 h) i g)), none, some (vi_ (i : Int)), none] [] τ := by
  have hW := vv_WF hA
  have ws := hW.s
  have wn := hW.n
  have wl := hW.l
  refine up_ _ (fun i hi ih τ hc hf => ?_)
  have hC := hc.2.1
  refine V_iload_n (pc := 111) dX6_digest_111 rfl rfl ?_
  refine V_aload_n (pc := 112) dX6_digest_112 rfl rfl ?_
  refine V_getr (pc := 113) dX6_digest_113 fX6_53 rfl gg_0 rfl ?_
  refine V_geti (pc := 116) dX6_digest_116 fX6_281 rfl gg_19 rfl (fun r116 => ?_)
  rw [hC.2.2.1] at r116 ⊢
  refine V_icmp_ge (tgt := 158) (pc := 119) dX6_digest_119 (by decide) (by first | decide | (constructor <;> omega)) (by first | decide | (constructor <;> omega)) (fun h119 => ?_) (fun h119 => ?_)
  · skip
    refine V_aload_n (pc := 158) dX6_digest_158 rfl rfl ?_
    refine V_lload_n (pc := 159) dX6_digest_159 rfl rfl ?_
    refine V_iconst (pc := 160) dX6_digest_160 ?_
    refine V_callV (pc := 161) (as := [_, _]) (rest := []) dX6_digest_161 ⟨kX6_307, iX6_withYear, by decide, by decide⟩ rc_0 rfl rfl (Nat.le_of_ble_eq_true rfl) (Nat.le_of_ble_eq_true rfl) ?_
    refine ct_X6_withYear (by first | decide | (constructor <;> omega)) hc (fun σ1 hc1 hf1 => ?_)
    have hf := hf.tr hf1
    have hc := hc1
    show V_ _ _ _ _ _ _ [_] _
    refine V_lstore_n (pc := 164) dX6_digest_164 rfl (by decide) rfl ?_
    show V_ _ _ _ _ _ [_, _, _, _, _] _ _
    refine V_aload_n (pc := 165) dX6_digest_165 rfl rfl ?_
    refine V_lload_n (pc := 166) dX6_digest_166 rfl rfl ?_
    refine V_bipush (pc := 167) dX6_digest_167 (by decide) ?_
    refine V_callV (pc := 169) (as := [_, _]) (rest := []) dX6_digest_169 ⟨kX6_307, iX6_withYear, by decide, by decide⟩ rc_0 rfl rfl (Nat.le_of_ble_eq_true rfl) (Nat.le_of_ble_eq_true rfl) ?_
    refine ct_X6_withYear (by first | decide | (constructor <;> omega)) hc (fun σ1 hc1 hf1 => ?_)
    have hf := hf.tr hf1
    have hc := hc1
    show V_ _ _ _ _ _ _ [_] _
    refine V_lstore_n (pc := 172) dX6_digest_172 rfl (by decide) rfl ?_
    show V_ _ _ _ _ _ [_, _, _, _, _] _ _
    refine V_aload_n (pc := 173) dX6_digest_173 rfl rfl ?_
    refine V_lload_n (pc := 174) dX6_digest_174 rfl rfl ?_
    refine V_bipush (pc := 175) dX6_digest_175 (by decide) ?_
    refine V_callV (pc := 177) (as := [_, _]) (rest := []) dX6_digest_177 ⟨kX6_307, iX6_withYear, by decide, by decide⟩ rc_0 rfl rfl (Nat.le_of_ble_eq_true rfl) (Nat.le_of_ble_eq_true rfl) ?_
    refine ct_X6_withYear (by first | decide | (constructor <;> omega)) hc (fun σ1 hc1 hf1 => ?_)
    have hf := hf.tr hf1
    have hc := hc1
    show V_ _ _ _ _ _ _ [_] _
    refine V_lstore_n (pc := 180) dX6_digest_180 rfl (by decide) rfl ?_
    show V_ _ _ _ _ _ [_, _, _, _, _] _ _
    refine V_ldc2 (v := (31)) (z := 31) (pc := 181) dX6_digest_181 (tb_in 704 (by decide +kernel) rfl) (by decide +kernel) ?_
    refine V_lload_n (pc := 184) dX6_digest_184 rfl rfl ?_
    refine V_lmul (pc := 185) dX6_digest_185 ?_
    refine V_aload_n (pc := 186) dX6_digest_186 rfl rfl ?_
    refine V_iconst (pc := 187) dX6_digest_187 ?_
    refine V_callV (pc := 188) (as := [_]) (rest := [_]) dX6_digest_188 ⟨kX6_310, iX6_first, by decide, by decide⟩ rc_0 rfl rfl (Nat.le_of_ble_eq_true rfl) (Nat.le_of_ble_eq_true rfl) ?_
    refine ct_X6_first (by first | decide | (constructor <;> omega)) hc (fun σ1 hc1 hf1 => ?_)
    have hf := hf.tr hf1
    have hc := hc1
    show V_ _ _ _ _ _ _ [_, _] _
    refine V_i2ln (pc := 191) dX6_digest_191 ?_
    refine V_ladd (pc := 192) dX6_digest_192 ?_
    refine V_lstore_n (pc := 193) dX6_digest_193 rfl (by decide) rfl ?_
    show V_ _ _ _ _ _ [_, _, _, _, _] _ _
    refine V_ldc2 (v := (31)) (z := 31) (pc := 194) dX6_digest_194 (tb_in 704 (by decide +kernel) rfl) (by decide +kernel) ?_
    refine V_lload_n (pc := 197) dX6_digest_197 rfl rfl ?_
    refine V_lmul (pc := 198) dX6_digest_198 ?_
    refine V_aload_n (pc := 199) dX6_digest_199 rfl rfl ?_
    refine V_iconst (pc := 200) dX6_digest_200 ?_
    refine V_callV (pc := 201) (as := [_]) (rest := [_]) dX6_digest_201 ⟨kX6_310, iX6_first, by decide, by decide⟩ rc_0 rfl rfl (Nat.le_of_ble_eq_true rfl) (Nat.le_of_ble_eq_true rfl) ?_
    refine ct_X6_first (by first | decide | (constructor <;> omega)) hc (fun σ1 hc1 hf1 => ?_)
    have hf := hf.tr hf1
    have hc := hc1
    show V_ _ _ _ _ _ _ [_, _] _
    refine V_i2ln (pc := 204) dX6_digest_204 ?_
    refine V_ladd (pc := 205) dX6_digest_205 ?_
    refine V_lstore_n (pc := 206) dX6_digest_206 rfl (by decide) rfl ?_
    show V_ _ _ _ _ _ [_, _, _, _, _] _ _
    refine V_ldc2 (v := (31)) (z := 31) (pc := 207) dX6_digest_207 (tb_in 704 (by decide +kernel) rfl) (by decide +kernel) ?_
    refine V_lload_n (pc := 210) dX6_digest_210 rfl rfl ?_
    refine V_lmul (pc := 211) dX6_digest_211 ?_
    refine V_aload_n (pc := 212) dX6_digest_212 rfl rfl ?_
    refine V_callV (pc := 213) (as := []) (rest := [_]) dX6_digest_213 ⟨kX6_313, iX6_safe, by decide, by decide⟩ rc_0 rfl rfl (Nat.le_of_ble_eq_true rfl) (Nat.le_of_ble_eq_true rfl) ?_
    refine ct_X6_safe hc (fun σ1 hc1 hf1 => ?_)
    have hf := hf.tr hf1
    have hc := hc1
    show V_ _ _ _ _ _ _ [_, _] _
    refine V_i2ln (pc := 216) dX6_digest_216 ?_
    refine V_ladd (pc := 217) dX6_digest_217 ?_
    refine V_lstore_n (pc := 218) dX6_digest_218 rfl (by decide) rfl ?_
    show V_ _ _ _ _ _ [_, _, _, _, _] _ _
    refine V_ldc2 (v := (31)) (z := 31) (pc := 219) dX6_digest_219 (tb_in 704 (by decide +kernel) rfl) (by decide +kernel) ?_
    refine V_lload_n (pc := 222) dX6_digest_222 rfl rfl ?_
    refine V_lmul (pc := 223) dX6_digest_223 ?_
    refine V_aload_n (pc := 224) dX6_digest_224 rfl rfl ?_
    refine V_iconst (pc := 225) dX6_digest_225 ?_
    refine V_callV (pc := 226) (as := [_]) (rest := [_]) dX6_digest_226 ⟨kX6_316, iX6_sound, by decide, by decide⟩ rc_0 rfl rfl (Nat.le_of_ble_eq_true rfl) (Nat.le_of_ble_eq_true rfl) ?_
    refine ct_X6_sound (by first | decide | (constructor <;> omega)) hc (fun σ1 hc1 hf1 => ?_)
    have hf := hf.tr hf1
    have hc := hc1
    show V_ _ _ _ _ _ _ [_, _] _
    refine V_i2ln (pc := 229) dX6_digest_229 ?_
    refine V_ladd (pc := 230) dX6_digest_230 ?_
    refine V_lstore_n (pc := 231) dX6_digest_231 rfl (by decide) rfl ?_
    show V_ _ _ _ _ _ [_, _, _, _, _] _ _
    refine V_ldc2 (v := (31)) (z := 31) (pc := 232) dX6_digest_232 (tb_in 704 (by decide +kernel) rfl) (by decide +kernel) ?_
    refine V_lload_n (pc := 235) dX6_digest_235 rfl rfl ?_
    refine V_lmul (pc := 236) dX6_digest_236 ?_
    refine V_aload_n (pc := 237) dX6_digest_237 rfl rfl ?_
    refine V_iconst (pc := 238) dX6_digest_238 ?_
    refine V_callV (pc := 239) (as := [_]) (rest := [_]) dX6_digest_239 ⟨kX6_316, iX6_sound, by decide, by decide⟩ rc_0 rfl rfl (Nat.le_of_ble_eq_true rfl) (Nat.le_of_ble_eq_true rfl) ?_
    refine ct_X6_sound (by first | decide | (constructor <;> omega)) hc (fun σ1 hc1 hf1 => ?_)
    have hf := hf.tr hf1
    have hc := hc1
    show V_ _ _ _ _ _ _ [_, _] _
    refine V_i2ln (pc := 242) dX6_digest_242 ?_
    refine V_ladd (pc := 243) dX6_digest_243 ?_
    refine V_lstore_n (pc := 244) dX6_digest_244 rfl (by decide) rfl ?_
    show V_ _ _ _ _ _ [_, _, _, _, _] _ _
    refine V_ldc2 (v := (31)) (z := 31) (pc := 245) dX6_digest_245 (tb_in 704 (by decide +kernel) rfl) (by decide +kernel) ?_
    refine V_lload_n (pc := 248) dX6_digest_248 rfl rfl ?_
    refine V_lmul (pc := 249) dX6_digest_249 ?_
    refine V_aload_n (pc := 250) dX6_digest_250 rfl rfl ?_
    refine V_callV (pc := 251) (as := []) (rest := [_]) dX6_digest_251 ⟨kX6_319, iX6_press, by decide, by decide⟩ rc_0 rfl rfl (Nat.le_of_ble_eq_true rfl) (Nat.le_of_ble_eq_true rfl) ?_
    refine ct_X6_press hc (fun σ1 hc1 hf1 => ?_)
    have hf := hf.tr hf1
    have hc := hc1
    show V_ _ _ _ _ _ _ [_, _] _
    refine V_i2ln (pc := 254) dX6_digest_254 ?_
    refine V_ladd (pc := 255) dX6_digest_255 ?_
    refine V_lreturn (pc := 256) dX6_digest_256 rfl (fun hR => ?_)
    have h2 := hK _ hc hf
    rw [show i = (vv_ a 7 0).toNat by omega]
    exact h2
  · skip
    refine V_iconst (pc := 122) dX6_digest_122 ?_
    refine V_istore (pc := 123) dX6_digest_123 (by decide) rfl ?_
    show V_ _ _ _ _ _ [_, _, _, _, _] _ _
    refine V_cg (l6_X6_digest (g := (fo_ (fun j h => fo_ (fun q h => dg_ h (an_line a (j : Int) (q : Int))) 4 h) i g)) (y := i) (by omega) (by omega) (fun τ hc hf => ?_) 0 (by decide) _ hc hf) (by simp [fo_]) rfl rfl
    refine V_iinc (pc := 152) dX6_digest_152 rfl (by decide) rfl ?_
    refine V_goto (tgt := 111) (pc := 155) dX6_digest_155 (by decide) ?_
    exact V_cg (ih (by omega) _ hc hf) (by simp [fo_]) rfl rfl
theorem l4_X6_digest {g : Int} (hA : AW_ a) (hK : ∀ σ1, CR_ a σ1 → Fm_ σ σ1 → post (some (vl_ (e3_ a g))) σ1) : ∀ i : Nat, i ≤ (vv_ a 3 0).toNat → ∀ τ, CR_ a τ → Fm_ σ τ → V_ l D mX6_digest (CM_ D mX6_digest post) 85 [some (vr_ 0), some (vl_ (fo_ (fun j h => dn_ a h (j : Int)) i g)), none, some (vi_ (i : Int)), none] [] τ := by
  have hW := vv_WF hA
  have ws := hW.s
  have wn := hW.n
  have wl := hW.l
  refine up_ _ (fun i hi ih τ hc hf => ?_)
  have hC := hc.2.1
  refine V_iload_n (pc := 85) dX6_digest_85 rfl rfl ?_
  refine V_aload_n (pc := 86) dX6_digest_86 rfl rfl ?_
  refine V_getr (pc := 87) dX6_digest_87 fX6_53 rfl gg_0 rfl ?_
  refine V_geti (pc := 90) dX6_digest_90 fX6_206 rfl gg_19 rfl (fun r90 => ?_)
  rw [hC.2.1] at r90 ⊢
  refine V_icmp_ge (tgt := 109) (pc := 93) dX6_digest_93 (by decide) (by first | decide | (constructor <;> omega)) (by first | decide | (constructor <;> omega)) (fun h93 => ?_) (fun h93 => ?_)
  · skip
    refine V_iconst (pc := 109) dX6_digest_109 ?_
    refine V_istore_n (pc := 110) dX6_digest_110 rfl (by decide) rfl ?_
    show V_ _ _ _ _ _ [_, _, _, _, _] _ _
    exact V_cg (l5_X6_digest (g := (fo_ (fun j h => dn_ a h (j : Int)) i g)) hA (by rw [show i = (vv_ a 3 0).toNat by omega]; exact hK) 0 (Nat.zero_le _) _ hc hf) (by simp [fo_]) rfl rfl
  · skip
    refine V_aload_n (pc := 96) dX6_digest_96 rfl rfl ?_
    refine V_lload_n (pc := 97) dX6_digest_97 rfl rfl ?_
    refine V_iload_n (pc := 98) dX6_digest_98 rfl rfl ?_
    refine V_callV (pc := 99) (as := [_, _]) (rest := []) dX6_digest_99 ⟨kX6_301, iX6_withName, by decide, by decide⟩ rc_0 rfl rfl (Nat.le_of_ble_eq_true rfl) (Nat.le_of_ble_eq_true rfl) ?_
    refine ct_X6_withName (by first | decide | (constructor <;> omega)) hc (fun σ1 hc1 hf1 => ?_)
    have hf := hf.tr hf1
    have hc := hc1
    show V_ _ _ _ _ _ _ [_] _
    refine V_lstore_n (pc := 102) dX6_digest_102 rfl (by decide) rfl ?_
    show V_ _ _ _ _ _ [_, _, _, _, _] _ _
    refine V_iinc (pc := 103) dX6_digest_103 rfl (by decide) rfl ?_
    show V_ _ _ _ _ _ [_, _, _, _, _] _ _
    refine V_goto (tgt := 85) (pc := 106) dX6_digest_106 (by decide) ?_
    exact V_cg (ih (by omega) _ hc hf) (by simp [fo_]) rfl rfl
theorem l3_X6_digest {g : Int} (hA : AW_ a) (hK : ∀ σ1, CR_ a σ1 → Fm_ σ σ1 → post (some (vl_ (e2_ a g))) σ1) : ∀ i : Nat, i ≤ (vv_ a 0 0).toNat → ∀ τ, CR_ a τ → Fm_ σ τ → V_ l D mX6_digest (CM_ D mX6_digest post) 59 [some (vr_ 0), some (vl_ (fo_ (fun j h => ds_ a h (j : Int)) i g)), none, some (vi_ (i : Int)), none] [] τ := by
  have hW := vv_WF hA
  have ws := hW.s
  have wn := hW.n
  have wl := hW.l
  refine up_ _ (fun i hi ih τ hc hf => ?_)
  have hC := hc.2.1
  refine V_iload_n (pc := 59) dX6_digest_59 rfl rfl ?_
  refine V_aload_n (pc := 60) dX6_digest_60 rfl rfl ?_
  refine V_getr (pc := 61) dX6_digest_61 fX6_53 rfl gg_0 rfl ?_
  refine V_geti (pc := 64) dX6_digest_64 fX6_200 rfl gg_19 rfl (fun r64 => ?_)
  rw [hC.1] at r64 ⊢
  refine V_icmp_ge (tgt := 83) (pc := 67) dX6_digest_67 (by decide) (by first | decide | (constructor <;> omega)) (by first | decide | (constructor <;> omega)) (fun h67 => ?_) (fun h67 => ?_)
  · skip
    refine V_iconst (pc := 83) dX6_digest_83 ?_
    refine V_istore_n (pc := 84) dX6_digest_84 rfl (by decide) rfl ?_
    show V_ _ _ _ _ _ [_, _, _, _, _] _ _
    exact V_cg (l4_X6_digest (g := (fo_ (fun j h => ds_ a h (j : Int)) i g)) hA (by rw [show i = (vv_ a 0 0).toNat by omega]; exact hK) 0 (Nat.zero_le _) _ hc hf) (by simp [fo_]) rfl rfl
  · skip
    refine V_aload_n (pc := 70) dX6_digest_70 rfl rfl ?_
    refine V_lload_n (pc := 71) dX6_digest_71 rfl rfl ?_
    refine V_iload_n (pc := 72) dX6_digest_72 rfl rfl ?_
    refine V_callV (pc := 73) (as := [_, _]) (rest := []) dX6_digest_73 ⟨kX6_297, iX6_withShip, by decide, by decide⟩ rc_0 rfl rfl (Nat.le_of_ble_eq_true rfl) (Nat.le_of_ble_eq_true rfl) ?_
    refine ct_X6_withShip (by first | decide | (constructor <;> omega)) hc (fun σ1 hc1 hf1 => ?_)
    have hf := hf.tr hf1
    have hc := hc1
    show V_ _ _ _ _ _ _ [_] _
    refine V_lstore_n (pc := 76) dX6_digest_76 rfl (by decide) rfl ?_
    show V_ _ _ _ _ _ [_, _, _, _, _] _ _
    refine V_iinc (pc := 77) dX6_digest_77 rfl (by decide) rfl ?_
    show V_ _ _ _ _ _ [_, _, _, _, _] _ _
    refine V_goto (tgt := 59) (pc := 80) dX6_digest_80 (by decide) ?_
    exact V_cg (ih (by omega) _ hc hf) (by simp [fo_]) rfl rfl
theorem l2_X6_digest {g : Int} (hA : AW_ a) (hK : ∀ σ1, CR_ a σ1 → Fm_ σ σ1 → post (some (vl_ (e1_ a g))) σ1) : ∀ i : Nat, i ≤ 3 → ∀ τ, CR_ a τ → Fm_ σ τ → V_ l D mX6_digest (CM_ D mX6_digest post) 33 [some (vr_ 0), some (vl_ (fo_ (fun j h => dg_ h (an_fault a (j : Int))) i g)), none, some (vi_ (i : Int)), none] [] τ := by
  have hW := vv_WF hA
  have ws := hW.s
  have wn := hW.n
  have wl := hW.l
  refine up_ _ (fun i hi ih τ hc hf => ?_)
  have hC := hc.2.1
  refine V_iload_n (pc := 33) dX6_digest_33 rfl rfl ?_
  refine V_iconst (pc := 34) dX6_digest_34 ?_
  refine V_icmp_gt (tgt := 57) (pc := 35) dX6_digest_35 (by decide) (by first | decide | (constructor <;> omega)) (by first | decide | (constructor <;> omega)) (fun h35 => ?_) (fun h35 => ?_)
  · skip
    refine V_iconst (pc := 57) dX6_digest_57 ?_
    refine V_istore_n (pc := 58) dX6_digest_58 rfl (by decide) rfl ?_
    show V_ _ _ _ _ _ [_, _, _, _, _] _ _
    exact V_cg (l3_X6_digest (g := (fo_ (fun j h => dg_ h (an_fault a (j : Int))) i g)) hA (by rw [show i = 3 by omega]; exact hK) 0 (Nat.zero_le _) _ hc hf) (by simp [fo_]) rfl rfl
  · skip
    refine V_ldc2 (v := (31)) (z := 31) (pc := 38) dX6_digest_38 (tb_in 704 (by decide +kernel) rfl) (by decide +kernel) ?_
    refine V_lload_n (pc := 41) dX6_digest_41 rfl rfl ?_
    refine V_lmul (pc := 42) dX6_digest_42 ?_
    refine V_aload_n (pc := 43) dX6_digest_43 rfl rfl ?_
    refine V_iload_n (pc := 44) dX6_digest_44 rfl rfl ?_
    refine V_callV (pc := 45) (as := [_]) (rest := [_]) dX6_digest_45 ⟨kX6_294, iX6_fault, by decide, by decide⟩ rc_0 rfl rfl (Nat.le_of_ble_eq_true rfl) (Nat.le_of_ble_eq_true rfl) ?_
    refine ct_X6_fault (by first | decide | (constructor <;> omega)) hc (fun σ1 hc1 hf1 => ?_)
    have hf := hf.tr hf1
    have hc := hc1
    show V_ _ _ _ _ _ _ [_, _] _
    refine V_i2ln (pc := 48) dX6_digest_48 ?_
    refine V_ladd (pc := 49) dX6_digest_49 ?_
    refine V_lstore_n (pc := 50) dX6_digest_50 rfl (by decide) rfl ?_
    show V_ _ _ _ _ _ [_, _, _, _, _] _ _
    refine V_iinc (pc := 51) dX6_digest_51 rfl (by decide) rfl ?_
    show V_ _ _ _ _ _ [_, _, _, _, _] _ _
    refine V_goto (tgt := 33) (pc := 54) dX6_digest_54 (by decide) ?_
    exact V_cg (ih (by omega) _ hc hf) (by simp [fo_, dg_]) rfl rfl
theorem l1_X6_digest {g : Int} (hg : g = 17) (hA : AW_ a) (hK : ∀ σ1, CR_ a σ1 → Fm_ σ σ1 → post (some (vl_ (an_digest a))) σ1) : ∀ i : Nat, i ≤ 8 → ∀ τ, CR_ a τ → Fm_ σ τ → V_ l D mX6_digest (CM_ D mX6_digest post) 6 [some (vr_ 0), some (vl_ (fo_ (fun j h => dg_ h (an_count a (j : Int))) i g)), none, some (vi_ (i : Int)), none] [] τ := by
  have hW := vv_WF hA
  have ws := hW.s
  have wn := hW.n
  have wl := hW.l
  refine up_ _ (fun i hi ih τ hc hf => ?_)
  have hC := hc.2.1
  refine V_iload_n (pc := 6) dX6_digest_6 rfl rfl ?_
  refine V_bipush (pc := 7) dX6_digest_7 (by decide) ?_
  refine V_icmp_gt (tgt := 31) (pc := 9) dX6_digest_9 (by decide) (by first | decide | (constructor <;> omega)) (by first | decide | (constructor <;> omega)) (fun h9 => ?_) (fun h9 => ?_)
  · skip
    refine V_iconst (pc := 31) dX6_digest_31 ?_
    refine V_istore_n (pc := 32) dX6_digest_32 rfl (by decide) rfl ?_
    show V_ _ _ _ _ _ [_, _, _, _, _] _ _
    exact V_cg (l2_X6_digest (g := (fo_ (fun j h => dg_ h (an_count a (j : Int))) i g)) hA (by rw [show i = 8 by omega, hg]; exact hK) 0 (Nat.zero_le _) _ hc hf) (by simp [fo_]) rfl rfl
  · skip
    refine V_ldc2 (v := (31)) (z := 31) (pc := 12) dX6_digest_12 (tb_in 704 (by decide +kernel) rfl) (by decide +kernel) ?_
    refine V_lload_n (pc := 15) dX6_digest_15 rfl rfl ?_
    refine V_lmul (pc := 16) dX6_digest_16 ?_
    refine V_aload_n (pc := 17) dX6_digest_17 rfl rfl ?_
    refine V_iload_n (pc := 18) dX6_digest_18 rfl rfl ?_
    refine V_callV (pc := 19) (as := [_]) (rest := [_]) dX6_digest_19 ⟨kX6_291, iX6_count, by decide, by decide⟩ rc_0 rfl rfl (Nat.le_of_ble_eq_true rfl) (Nat.le_of_ble_eq_true rfl) ?_
    refine ct_X6_count (by first | decide | (constructor <;> omega)) hc (fun σ1 hc1 hf1 => ?_)
    have hf := hf.tr hf1
    have hc := hc1
    show V_ _ _ _ _ _ _ [_, _] _
    refine V_i2ln (pc := 22) dX6_digest_22 ?_
    refine V_ladd (pc := 23) dX6_digest_23 ?_
    refine V_lstore_n (pc := 24) dX6_digest_24 rfl (by decide) rfl ?_
    show V_ _ _ _ _ _ [_, _, _, _, _] _ _
    refine V_iinc (pc := 25) dX6_digest_25 rfl (by decide) rfl ?_
    show V_ _ _ _ _ _ [_, _, _, _, _] _ _
    refine V_goto (tgt := 6) (pc := 28) dX6_digest_28 (by decide) ?_
    exact V_cg (ih (by omega) _ hc hf) (by simp [fo_, dg_]) rfl rfl
theorem ct_X6_digest (h : CR_ a σ) (hK : ∀ σ1, CR_ a σ1 → Fm_ σ σ1 → post (some (vl_ (an_digest a))) σ1) : V_ l D mX6_digest (CM_ D mX6_digest post) 0 [some (vr_ 0), none, none, none, none] [] σ := by
  refine V_ldc2 (v := (17)) (z := 17) (pc := 0) dX6_digest_0 (tb_in 703 (by decide +kernel) rfl) (by decide +kernel) ?_
  refine V_lstore_n (pc := 3) dX6_digest_3 rfl (by decide) rfl ?_
  show V_ _ _ _ _ _ [_, _, _, _, _] _ _
  refine V_iconst (pc := 4) dX6_digest_4 ?_
  refine V_istore_n (pc := 5) dX6_digest_5 rfl (by decide) rfl ?_
  show V_ _ _ _ _ _ [_, _, _, _, _] _ _
  exact V_cg (l1_X6_digest rfl h.1.1 hK 0 (Nat.zero_le _) _ h Fm_.rf) (by simp [fo_]) rfl rfl
end
