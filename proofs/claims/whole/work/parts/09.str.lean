/-! ## String constants: length, charAt; Arrays.fill, Integer.bitCount -/
section VSTRROWS
variable {l : Launch} {D : Dt_} {y : Mt_} {C : Cp_} {pc : Nat} {ls : List (Option Av_)} {st : List Av_} {σ : Mm_}
theorem V_getCS {idx : Nat} (hd : decode y.2.1 pc = .ok (.getstatic idx, 3)) (hk : Cond.fieldLink y.1.cls idx "java/lang/String" "COMPACT_STRINGS" "Z" ∈ gw_) (h : V_ l D y C (pc + 3) ls (vi_ 1 :: st) σ) : V_ l D y C pc ls st σ := by
  intro hR p e R s m args below meth c cells slots Q hC B H locs lsA hP hS hl
  exact va_gets B.1 B.2.1 B.2.2.2.2.2.2.2.2.2.2.2.1 hS B.2.2.2.2.1 (B.2.2.2.2.2.1 _ hk) (fun _ z => z) hd (h hR p e R s m args below meth c cells slots Q hC B H locs lsA hP hS hl)
theorem V_getFm {idx : Nat} (hd : decode y.2.1 pc = .ok (.getstatic idx, 3)) (hk : Cond.fieldLink y.1.cls idx "jdk/internal/util/Preconditions" "SIOOBE_FORMATTER" "Ljava/util/function/BiFunction;" ∈ gw_) (h : ∀ v : Option Nat, V_ l D y C (pc + 3) ls (.inr (.inr v) :: st) σ) : V_ l D y C pc ls st σ := by
  intro hR p e R s m args below meth c cells slots Q hC B H locs lsA hP hS hl
  rcases B.2.2.2.2.2.2.2.2.2.2.2.2 with z | z
  · exact va_gets B.1 B.2.1 z hS B.2.2.2.2.1 (B.2.2.2.2.2.1 _ hk) (fun _ z => z) hd (h none hR p e R s m args below meth c cells slots Q hC B H locs lsA hP hS hl)
  · exact va_gets B.1 B.2.1 z hS B.2.2.2.2.1 (B.2.2.2.2.2.1 _ hk) (fun _ z => z) hd (h (some 120) hR p e R s m args below meth c cells slots Q hC B H locs lsA hP hS hl)
theorem V_strC {idx i : Nat} (hd : decode y.2.1 pc = .ok (.getfield idx, 3)) (hk : Cond.fieldLink y.1.cls idx "java/lang/String" "coder" "B" ∈ gw_) (hi : i < 3) (h : V_ l D y C (pc + 3) ls (vi_ 0 :: st) σ) : V_ l D y C pc ls (vr_ (100 + i) :: st) σ := by
  intro hR p e R s m args below meth c cells slots Q hC B H locs lsA hP hS hl
  exact vk_getf B.1 B.2.1 (B.2.2.2.2.2.2.2.2.2.2.1.1 i hi).2.1 hS B.2.2.2.2.1 (B.2.2.2.2.2.1 _ hk) (fun _ z => z) hd (h hR p e R s m args below meth c cells slots Q hC B H locs lsA hP hS hl)
theorem V_strV {idx i : Nat} (hd : decode y.2.1 pc = .ok (.getfield idx, 3)) (hk : Cond.fieldLink y.1.cls idx "java/lang/String" "value" "[B" ∈ gw_) (hi : i < 3) (h : V_ l D y C (pc + 3) ls (vr_ (110 + i) :: st) σ) : V_ l D y C pc ls (vr_ (100 + i) :: st) σ := by
  intro hR p e R s m args below meth c cells slots Q hC B H locs lsA hP hS hl
  exact vk_getf B.1 B.2.1 (B.2.2.2.2.2.2.2.2.2.2.1.1 i hi).2.2.1 hS B.2.2.2.2.1 (B.2.2.2.2.2.1 _ hk) (fun _ z => z) hd (h hR p e R s m args below meth c cells slots Q hC B H locs lsA hP hS hl)
theorem V_strL {i : Nat} {n : Int} (hd : decode y.2.1 pc = .ok (.arraylength, 1)) (hi : i < 3) (hn : Int32.ofNat ([3, 4, 4].getD i 0) = Int32.ofInt n) (h : V_ l D y C (pc + 1) ls (vi_ n :: st) σ) : V_ l D y C pc ls (vr_ (110 + i) :: st) σ := by
  intro hR p e R s m args below meth c cells slots Q hC B H locs lsA hP hS hl
  exact va_tlen B.1 B.2.1 (B.2.2.2.2.2.2.2.2.2.2.1.1 i hi).2.2.2 hS hn hd (h hR p e R s m args below meth c cells slots Q hC B H locs lsA hP hS hl)
theorem V_strB {i : Nat} {j z : Int} (hd : decode y.2.1 pc = .ok (.baload, 1)) (hi : i < 3) (hj : vp_in (Int32.ofInt j) ([3, 4, 4].getD i 0)) (hz : Value.int ((([[57, 49, 57], [57, 57, 108, 46], [53, 97, 57, 49]] : List (List Int32)).getD i []).getD (Int32.ofInt j).toNatClampNeg 0) = .int (Int32.ofInt z)) (h : V_ l D y C (pc + 1) ls (vi_ z :: st) σ) : V_ l D y C pc ls (vi_ j :: vr_ (110 + i) :: st) σ := by
  intro hR p e R s m args below meth c cells slots Q hC B H locs lsA hP hS hl
  exact va_tb B.1 B.2.1 (B.2.2.2.2.2.2.2.2.2.2.1.1 i hi).2.2.2 hS hj hz hd (h hR p e R s m args below meth c cells slots Q hC B H locs lsA hP hS hl)
theorem V_i2c {a : Int} (hd : decode y.2.1 pc = .ok (.i2c, 1)) (h : V_ l D y C (pc + 1) ls (vi_ (i2c_ a) :: st) σ) : V_ l D y C pc ls (vi_ a :: st) σ := by
  intro hR p e R s m args below meth c cells slots Q hC B H locs lsA hP hS hl
  exact lv_i2c B.1 B.2.1 hd (v := Int32.ofInt (i2c_ a)) (by unfold i2c_; rw [i3_of]) (h hR p e R s m args below meth c cells slots Q hC B H locs lsA hP hS hl)
end VSTRROWS
section
variable {l : Launch} {D : Dt_} {σ : Mm_} {post : Option Av_ → Mm_ → Prop}
theorem ct_J3_checkIndex_8e157 {i n : Int} {v : Option Nat} (hi : 0 ≤ i) (hin : i < n) (hn : n ≤ 2147483647) (h : post (some (vi_ i)) σ) : V_ l D mJ3_checkIndex_8e157 (CM_ D mJ3_checkIndex_8e157 post) 0 [some (vi_ i), some (vi_ n), some (.inr (.inr v))] [] σ := by
  refine V_iload_n (pc := 0) dJ3_checkIndex_8e157_0 rfl rfl ?_
  refine V_if_lt (tgt := 9) (pc := 1) dJ3_checkIndex_8e157_1 (by decide) (by first | assumption | decide | omega | exact ba_rg hR | exact b2_rg) (fun h1 => by omega) (fun h1 => ?_)
  refine V_iload_n (pc := 4) dJ3_checkIndex_8e157_4 rfl rfl ?_
  refine V_iload_n (pc := 5) dJ3_checkIndex_8e157_5 rfl rfl ?_
  refine V_icmp_lt (tgt := 16) (pc := 6) dJ3_checkIndex_8e157_6 (by decide) (by first | assumption | decide | omega | exact ba_rg hR | exact b2_rg) (by first | assumption | decide | omega | exact ba_rg hR | exact b2_rg) (fun h6 => ?_) (fun h6 => by omega)
  refine V_iload_n (pc := 16) dJ3_checkIndex_8e157_16 rfl rfl ?_
  refine V_ireturn (pc := 17) dJ3_checkIndex_8e157_17 rfl rfl (fun hR => ?_)
  exact h
theorem ct_J0_checkIndex_df160 {i n : Int} (hi : 0 ≤ i) (hin : i < n) (hn : n ≤ 2147483647) (h : post none σ) : V_ l D mJ0_checkIndex_df160 (CM_ D mJ0_checkIndex_df160 post) 0 [some (vi_ i), some (vi_ n)] [] σ := by
  refine V_iload_n (pc := 0) dJ0_checkIndex_df160_0 rfl rfl ?_
  refine V_iload_n (pc := 1) dJ0_checkIndex_df160_1 rfl rfl ?_
  refine V_getFm (pc := 2) dJ0_checkIndex_df160_2 (tb_in 335 (by decide +kernel) rfl) (fun v => ?_)
  refine V_callS (pc := 5) (as := [_, _, _]) (rest := []) dJ0_checkIndex_df160_5 ⟨kJ0_1059, sJ3_checkIndex_8e157, by decide, by decide⟩ rfl rfl (Nat.le_of_ble_eq_true rfl) (Nat.le_of_ble_eq_true rfl) ?_
  refine ct_J3_checkIndex_8e157 (by assumption) (by assumption) (by assumption) ?_
  show V_ _ _ _ _ _ _ [_] _
  refine V_pop (pc := 8) dJ0_checkIndex_df160_8 rfl ?_
  refine V_return (pc := 9) dJ0_checkIndex_df160_9 rfl (fun hR => ?_)
  exact h
theorem ct_J0_coder_0 (h : post (some (vi_ 0)) σ) : V_ l D mJ0_coder_7d493 (CM_ D mJ0_coder_7d493 post) 0 [some (vr_ 100)] [] σ := by
  refine V_getCS (pc := 0) dJ0_coder_7d493_0 (tb_in 40 (by decide +kernel) rfl) ?_
  refine V_if_eq (tgt := 13) (pc := 3) dJ0_coder_7d493_3 (by decide) (by first | assumption | decide | omega | exact ba_rg hR | exact b2_rg) (fun h3 => by omega) (fun h3 => ?_)
  refine V_aload_n (pc := 6) dJ0_coder_7d493_6 rfl rfl ?_
  refine V_strC (i := 0) (pc := 7) dJ0_coder_7d493_7 (tb_in 1190 (by decide +kernel) rfl) (by decide) ?_
  refine V_goto (tgt := 14) (pc := 10) dJ0_coder_7d493_10 (by decide) ?_
  refine V_ireturn (pc := 14) dJ0_coder_7d493_14 rfl rfl (fun hR => ?_)
  exact h
theorem ct_J0_isLatin1_0 (h : post (some (vi_ 1)) σ) : V_ l D mJ0_isLatin1_aae02 (CM_ D mJ0_isLatin1_aae02 post) 0 [some (vr_ 100)] [] σ := by
  refine V_getCS (pc := 0) dJ0_isLatin1_aae02_0 (tb_in 40 (by decide +kernel) rfl) ?_
  refine V_if_eq (tgt := 17) (pc := 3) dJ0_isLatin1_aae02_3 (by decide) (by first | assumption | decide | omega | exact ba_rg hR | exact b2_rg) (fun h3 => by omega) (fun h3 => ?_)
  refine V_aload_n (pc := 6) dJ0_isLatin1_aae02_6 rfl rfl ?_
  refine V_strC (i := 0) (pc := 7) dJ0_isLatin1_aae02_7 (tb_in 1190 (by decide +kernel) rfl) (by decide) ?_
  refine V_if_ne (tgt := 17) (pc := 10) dJ0_isLatin1_aae02_10 (by decide) (by first | assumption | decide | omega | exact ba_rg hR | exact b2_rg) (fun h10 => by omega) (fun h10 => ?_)
  refine V_iconst (pc := 13) dJ0_isLatin1_aae02_13 ?_
  refine V_goto (tgt := 18) (pc := 14) dJ0_isLatin1_aae02_14 (by decide) ?_
  refine V_ireturn (pc := 18) dJ0_isLatin1_aae02_18 rfl rfl (fun hR => ?_)
  exact h
theorem ct_J0_length_0 (h : post (some (vi_ 3)) σ) : V_ l D mJ0_length_8abf5 (CM_ D mJ0_length_8abf5 post) 0 [some (vr_ 100)] [] σ := by
  refine V_aload_n (pc := 0) dJ0_length_8abf5_0 rfl rfl ?_
  refine V_strV (i := 0) (pc := 1) dJ0_length_8abf5_1 (tb_in 1189 (by decide +kernel) rfl) (by decide) ?_
  refine V_strL (i := 0) (n := 3) (pc := 4) dJ0_length_8abf5_4 (by decide) rfl ?_
  refine V_aload_n (pc := 5) dJ0_length_8abf5_5 rfl rfl ?_
  refine V_callV (pc := 6) (as := []) (rest := [_]) dJ0_length_8abf5_6 ⟨kJ0_335, iJ0_coder_7d493, by decide, by decide⟩ rc_100 rfl rfl (Nat.le_of_ble_eq_true rfl) (Nat.le_of_ble_eq_true rfl) ?_
  refine ct_J0_coder_0 ?_
  show V_ _ _ _ _ _ _ [_, _] _
  refine V_ishr (pc := 9) dJ0_length_8abf5_9 ?_
  refine V_ireturn (pc := 10) dJ0_length_8abf5_10 rfl rfl (fun hR => ?_)
  exact h
theorem ct_J1_charAt_0_0 (h : post (some (vi_ 57)) σ) : V_ l D mJ1_charAt_3b067 (CM_ D mJ1_charAt_3b067 post) 0 [some (vr_ 110), some (vi_ 0)] [] σ := by
  refine V_iload_n (pc := 0) dJ1_charAt_3b067_0 rfl rfl ?_
  refine V_aload_n (pc := 1) dJ1_charAt_3b067_1 rfl rfl ?_
  refine V_strL (i := 0) (n := 3) (pc := 2) dJ1_charAt_3b067_2 (by decide) rfl ?_
  refine V_callS (pc := 3) (as := [_, _]) (rest := []) dJ1_charAt_3b067_3 ⟨kJ1_9, sJ0_checkIndex_df160, by decide, by decide⟩ rfl rfl (Nat.le_of_ble_eq_true rfl) (Nat.le_of_ble_eq_true rfl) ?_
  refine ct_J0_checkIndex_df160 (by decide) (by decide) (by decide) ?_
  show V_ _ _ _ _ _ _ [] _
  refine V_aload_n (pc := 6) dJ1_charAt_3b067_6 rfl rfl ?_
  refine V_iload_n (pc := 7) dJ1_charAt_3b067_7 rfl rfl ?_
  refine V_strB (i := 0) (z := 57) (pc := 8) dJ1_charAt_3b067_8 (by decide) (i3_in (by decide) (by decide) (by decide)) rfl ?_
  refine V_sipush (pc := 9) dJ1_charAt_3b067_9 (by decide) ?_
  refine V_iand (pc := 12) dJ1_charAt_3b067_12 ?_
  refine V_i2c (pc := 13) dJ1_charAt_3b067_13 ?_
  refine V_ireturn (pc := 14) dJ1_charAt_3b067_14 rfl rfl (fun hR => ?_)
  exact h
theorem ct_J0_charAt_0_0 (h : post (some (vi_ 57)) σ) : V_ l D mJ0_charAt_5068e (CM_ D mJ0_charAt_5068e post) 0 [some (vr_ 100), some (vi_ 0)] [] σ := by
  refine V_aload_n (pc := 0) dJ0_charAt_5068e_0 rfl rfl ?_
  refine V_callV (pc := 1) (as := []) (rest := []) dJ0_charAt_5068e_1 ⟨kJ0_492, iJ0_isLatin1_aae02, by decide, by decide⟩ rc_100 rfl rfl (Nat.le_of_ble_eq_true rfl) (Nat.le_of_ble_eq_true rfl) ?_
  refine ct_J0_isLatin1_0 ?_
  show V_ _ _ _ _ _ _ [_] _
  refine V_if_eq (tgt := 16) (pc := 4) dJ0_charAt_5068e_4 (by decide) (by first | assumption | decide | omega | exact ba_rg hR | exact b2_rg) (fun h4 => by omega) (fun h4 => ?_)
  refine V_aload_n (pc := 7) dJ0_charAt_5068e_7 rfl rfl ?_
  refine V_strV (i := 0) (pc := 8) dJ0_charAt_5068e_8 (tb_in 1189 (by decide +kernel) rfl) (by decide) ?_
  refine V_iload_n (pc := 11) dJ0_charAt_5068e_11 rfl rfl ?_
  refine V_callS (pc := 12) (as := [_, _]) (rest := []) dJ0_charAt_5068e_12 ⟨kJ0_495, sJ1_charAt_3b067, by decide, by decide⟩ rfl rfl (Nat.le_of_ble_eq_true rfl) (Nat.le_of_ble_eq_true rfl) ?_
  refine ct_J1_charAt_0_0 ?_
  show V_ _ _ _ _ _ _ [_] _
  refine V_ireturn (pc := 15) dJ0_charAt_5068e_15 rfl rfl (fun hR => ?_)
  exact h
theorem ct_J1_charAt_0_1 (h : post (some (vi_ 49)) σ) : V_ l D mJ1_charAt_3b067 (CM_ D mJ1_charAt_3b067 post) 0 [some (vr_ 110), some (vi_ 1)] [] σ := by
  refine V_iload_n (pc := 0) dJ1_charAt_3b067_0 rfl rfl ?_
  refine V_aload_n (pc := 1) dJ1_charAt_3b067_1 rfl rfl ?_
  refine V_strL (i := 0) (n := 3) (pc := 2) dJ1_charAt_3b067_2 (by decide) rfl ?_
  refine V_callS (pc := 3) (as := [_, _]) (rest := []) dJ1_charAt_3b067_3 ⟨kJ1_9, sJ0_checkIndex_df160, by decide, by decide⟩ rfl rfl (Nat.le_of_ble_eq_true rfl) (Nat.le_of_ble_eq_true rfl) ?_
  refine ct_J0_checkIndex_df160 (by decide) (by decide) (by decide) ?_
  show V_ _ _ _ _ _ _ [] _
  refine V_aload_n (pc := 6) dJ1_charAt_3b067_6 rfl rfl ?_
  refine V_iload_n (pc := 7) dJ1_charAt_3b067_7 rfl rfl ?_
  refine V_strB (i := 0) (z := 49) (pc := 8) dJ1_charAt_3b067_8 (by decide) (i3_in (by decide) (by decide) (by decide)) rfl ?_
  refine V_sipush (pc := 9) dJ1_charAt_3b067_9 (by decide) ?_
  refine V_iand (pc := 12) dJ1_charAt_3b067_12 ?_
  refine V_i2c (pc := 13) dJ1_charAt_3b067_13 ?_
  refine V_ireturn (pc := 14) dJ1_charAt_3b067_14 rfl rfl (fun hR => ?_)
  exact h
theorem ct_J0_charAt_0_1 (h : post (some (vi_ 49)) σ) : V_ l D mJ0_charAt_5068e (CM_ D mJ0_charAt_5068e post) 0 [some (vr_ 100), some (vi_ 1)] [] σ := by
  refine V_aload_n (pc := 0) dJ0_charAt_5068e_0 rfl rfl ?_
  refine V_callV (pc := 1) (as := []) (rest := []) dJ0_charAt_5068e_1 ⟨kJ0_492, iJ0_isLatin1_aae02, by decide, by decide⟩ rc_100 rfl rfl (Nat.le_of_ble_eq_true rfl) (Nat.le_of_ble_eq_true rfl) ?_
  refine ct_J0_isLatin1_0 ?_
  show V_ _ _ _ _ _ _ [_] _
  refine V_if_eq (tgt := 16) (pc := 4) dJ0_charAt_5068e_4 (by decide) (by first | assumption | decide | omega | exact ba_rg hR | exact b2_rg) (fun h4 => by omega) (fun h4 => ?_)
  refine V_aload_n (pc := 7) dJ0_charAt_5068e_7 rfl rfl ?_
  refine V_strV (i := 0) (pc := 8) dJ0_charAt_5068e_8 (tb_in 1189 (by decide +kernel) rfl) (by decide) ?_
  refine V_iload_n (pc := 11) dJ0_charAt_5068e_11 rfl rfl ?_
  refine V_callS (pc := 12) (as := [_, _]) (rest := []) dJ0_charAt_5068e_12 ⟨kJ0_495, sJ1_charAt_3b067, by decide, by decide⟩ rfl rfl (Nat.le_of_ble_eq_true rfl) (Nat.le_of_ble_eq_true rfl) ?_
  refine ct_J1_charAt_0_1 ?_
  show V_ _ _ _ _ _ _ [_] _
  refine V_ireturn (pc := 15) dJ0_charAt_5068e_15 rfl rfl (fun hR => ?_)
  exact h
theorem ct_J1_charAt_0_2 (h : post (some (vi_ 57)) σ) : V_ l D mJ1_charAt_3b067 (CM_ D mJ1_charAt_3b067 post) 0 [some (vr_ 110), some (vi_ 2)] [] σ := by
  refine V_iload_n (pc := 0) dJ1_charAt_3b067_0 rfl rfl ?_
  refine V_aload_n (pc := 1) dJ1_charAt_3b067_1 rfl rfl ?_
  refine V_strL (i := 0) (n := 3) (pc := 2) dJ1_charAt_3b067_2 (by decide) rfl ?_
  refine V_callS (pc := 3) (as := [_, _]) (rest := []) dJ1_charAt_3b067_3 ⟨kJ1_9, sJ0_checkIndex_df160, by decide, by decide⟩ rfl rfl (Nat.le_of_ble_eq_true rfl) (Nat.le_of_ble_eq_true rfl) ?_
  refine ct_J0_checkIndex_df160 (by decide) (by decide) (by decide) ?_
  show V_ _ _ _ _ _ _ [] _
  refine V_aload_n (pc := 6) dJ1_charAt_3b067_6 rfl rfl ?_
  refine V_iload_n (pc := 7) dJ1_charAt_3b067_7 rfl rfl ?_
  refine V_strB (i := 0) (z := 57) (pc := 8) dJ1_charAt_3b067_8 (by decide) (i3_in (by decide) (by decide) (by decide)) rfl ?_
  refine V_sipush (pc := 9) dJ1_charAt_3b067_9 (by decide) ?_
  refine V_iand (pc := 12) dJ1_charAt_3b067_12 ?_
  refine V_i2c (pc := 13) dJ1_charAt_3b067_13 ?_
  refine V_ireturn (pc := 14) dJ1_charAt_3b067_14 rfl rfl (fun hR => ?_)
  exact h
theorem ct_J0_charAt_0_2 (h : post (some (vi_ 57)) σ) : V_ l D mJ0_charAt_5068e (CM_ D mJ0_charAt_5068e post) 0 [some (vr_ 100), some (vi_ 2)] [] σ := by
  refine V_aload_n (pc := 0) dJ0_charAt_5068e_0 rfl rfl ?_
  refine V_callV (pc := 1) (as := []) (rest := []) dJ0_charAt_5068e_1 ⟨kJ0_492, iJ0_isLatin1_aae02, by decide, by decide⟩ rc_100 rfl rfl (Nat.le_of_ble_eq_true rfl) (Nat.le_of_ble_eq_true rfl) ?_
  refine ct_J0_isLatin1_0 ?_
  show V_ _ _ _ _ _ _ [_] _
  refine V_if_eq (tgt := 16) (pc := 4) dJ0_charAt_5068e_4 (by decide) (by first | assumption | decide | omega | exact ba_rg hR | exact b2_rg) (fun h4 => by omega) (fun h4 => ?_)
  refine V_aload_n (pc := 7) dJ0_charAt_5068e_7 rfl rfl ?_
  refine V_strV (i := 0) (pc := 8) dJ0_charAt_5068e_8 (tb_in 1189 (by decide +kernel) rfl) (by decide) ?_
  refine V_iload_n (pc := 11) dJ0_charAt_5068e_11 rfl rfl ?_
  refine V_callS (pc := 12) (as := [_, _]) (rest := []) dJ0_charAt_5068e_12 ⟨kJ0_495, sJ1_charAt_3b067, by decide, by decide⟩ rfl rfl (Nat.le_of_ble_eq_true rfl) (Nat.le_of_ble_eq_true rfl) ?_
  refine ct_J1_charAt_0_2 ?_
  show V_ _ _ _ _ _ _ [_] _
  refine V_ireturn (pc := 15) dJ0_charAt_5068e_15 rfl rfl (fun hR => ?_)
  exact h
theorem ct_J0_coder_1 (h : post (some (vi_ 0)) σ) : V_ l D mJ0_coder_7d493 (CM_ D mJ0_coder_7d493 post) 0 [some (vr_ 101)] [] σ := by
  refine V_getCS (pc := 0) dJ0_coder_7d493_0 (tb_in 40 (by decide +kernel) rfl) ?_
  refine V_if_eq (tgt := 13) (pc := 3) dJ0_coder_7d493_3 (by decide) (by first | assumption | decide | omega | exact ba_rg hR | exact b2_rg) (fun h3 => by omega) (fun h3 => ?_)
  refine V_aload_n (pc := 6) dJ0_coder_7d493_6 rfl rfl ?_
  refine V_strC (i := 1) (pc := 7) dJ0_coder_7d493_7 (tb_in 1190 (by decide +kernel) rfl) (by decide) ?_
  refine V_goto (tgt := 14) (pc := 10) dJ0_coder_7d493_10 (by decide) ?_
  refine V_ireturn (pc := 14) dJ0_coder_7d493_14 rfl rfl (fun hR => ?_)
  exact h
theorem ct_J0_isLatin1_1 (h : post (some (vi_ 1)) σ) : V_ l D mJ0_isLatin1_aae02 (CM_ D mJ0_isLatin1_aae02 post) 0 [some (vr_ 101)] [] σ := by
  refine V_getCS (pc := 0) dJ0_isLatin1_aae02_0 (tb_in 40 (by decide +kernel) rfl) ?_
  refine V_if_eq (tgt := 17) (pc := 3) dJ0_isLatin1_aae02_3 (by decide) (by first | assumption | decide | omega | exact ba_rg hR | exact b2_rg) (fun h3 => by omega) (fun h3 => ?_)
  refine V_aload_n (pc := 6) dJ0_isLatin1_aae02_6 rfl rfl ?_
  refine V_strC (i := 1) (pc := 7) dJ0_isLatin1_aae02_7 (tb_in 1190 (by decide +kernel) rfl) (by decide) ?_
  refine V_if_ne (tgt := 17) (pc := 10) dJ0_isLatin1_aae02_10 (by decide) (by first | assumption | decide | omega | exact ba_rg hR | exact b2_rg) (fun h10 => by omega) (fun h10 => ?_)
  refine V_iconst (pc := 13) dJ0_isLatin1_aae02_13 ?_
  refine V_goto (tgt := 18) (pc := 14) dJ0_isLatin1_aae02_14 (by decide) ?_
  refine V_ireturn (pc := 18) dJ0_isLatin1_aae02_18 rfl rfl (fun hR => ?_)
  exact h
theorem ct_J0_length_1 (h : post (some (vi_ 4)) σ) : V_ l D mJ0_length_8abf5 (CM_ D mJ0_length_8abf5 post) 0 [some (vr_ 101)] [] σ := by
  refine V_aload_n (pc := 0) dJ0_length_8abf5_0 rfl rfl ?_
  refine V_strV (i := 1) (pc := 1) dJ0_length_8abf5_1 (tb_in 1189 (by decide +kernel) rfl) (by decide) ?_
  refine V_strL (i := 1) (n := 4) (pc := 4) dJ0_length_8abf5_4 (by decide) rfl ?_
  refine V_aload_n (pc := 5) dJ0_length_8abf5_5 rfl rfl ?_
  refine V_callV (pc := 6) (as := []) (rest := [_]) dJ0_length_8abf5_6 ⟨kJ0_335, iJ0_coder_7d493, by decide, by decide⟩ rc_101 rfl rfl (Nat.le_of_ble_eq_true rfl) (Nat.le_of_ble_eq_true rfl) ?_
  refine ct_J0_coder_1 ?_
  show V_ _ _ _ _ _ _ [_, _] _
  refine V_ishr (pc := 9) dJ0_length_8abf5_9 ?_
  refine V_ireturn (pc := 10) dJ0_length_8abf5_10 rfl rfl (fun hR => ?_)
  exact h
theorem ct_J1_charAt_1_0 (h : post (some (vi_ 57)) σ) : V_ l D mJ1_charAt_3b067 (CM_ D mJ1_charAt_3b067 post) 0 [some (vr_ 111), some (vi_ 0)] [] σ := by
  refine V_iload_n (pc := 0) dJ1_charAt_3b067_0 rfl rfl ?_
  refine V_aload_n (pc := 1) dJ1_charAt_3b067_1 rfl rfl ?_
  refine V_strL (i := 1) (n := 4) (pc := 2) dJ1_charAt_3b067_2 (by decide) rfl ?_
  refine V_callS (pc := 3) (as := [_, _]) (rest := []) dJ1_charAt_3b067_3 ⟨kJ1_9, sJ0_checkIndex_df160, by decide, by decide⟩ rfl rfl (Nat.le_of_ble_eq_true rfl) (Nat.le_of_ble_eq_true rfl) ?_
  refine ct_J0_checkIndex_df160 (by decide) (by decide) (by decide) ?_
  show V_ _ _ _ _ _ _ [] _
  refine V_aload_n (pc := 6) dJ1_charAt_3b067_6 rfl rfl ?_
  refine V_iload_n (pc := 7) dJ1_charAt_3b067_7 rfl rfl ?_
  refine V_strB (i := 1) (z := 57) (pc := 8) dJ1_charAt_3b067_8 (by decide) (i3_in (by decide) (by decide) (by decide)) rfl ?_
  refine V_sipush (pc := 9) dJ1_charAt_3b067_9 (by decide) ?_
  refine V_iand (pc := 12) dJ1_charAt_3b067_12 ?_
  refine V_i2c (pc := 13) dJ1_charAt_3b067_13 ?_
  refine V_ireturn (pc := 14) dJ1_charAt_3b067_14 rfl rfl (fun hR => ?_)
  exact h
theorem ct_J0_charAt_1_0 (h : post (some (vi_ 57)) σ) : V_ l D mJ0_charAt_5068e (CM_ D mJ0_charAt_5068e post) 0 [some (vr_ 101), some (vi_ 0)] [] σ := by
  refine V_aload_n (pc := 0) dJ0_charAt_5068e_0 rfl rfl ?_
  refine V_callV (pc := 1) (as := []) (rest := []) dJ0_charAt_5068e_1 ⟨kJ0_492, iJ0_isLatin1_aae02, by decide, by decide⟩ rc_101 rfl rfl (Nat.le_of_ble_eq_true rfl) (Nat.le_of_ble_eq_true rfl) ?_
  refine ct_J0_isLatin1_1 ?_
  show V_ _ _ _ _ _ _ [_] _
  refine V_if_eq (tgt := 16) (pc := 4) dJ0_charAt_5068e_4 (by decide) (by first | assumption | decide | omega | exact ba_rg hR | exact b2_rg) (fun h4 => by omega) (fun h4 => ?_)
  refine V_aload_n (pc := 7) dJ0_charAt_5068e_7 rfl rfl ?_
  refine V_strV (i := 1) (pc := 8) dJ0_charAt_5068e_8 (tb_in 1189 (by decide +kernel) rfl) (by decide) ?_
  refine V_iload_n (pc := 11) dJ0_charAt_5068e_11 rfl rfl ?_
  refine V_callS (pc := 12) (as := [_, _]) (rest := []) dJ0_charAt_5068e_12 ⟨kJ0_495, sJ1_charAt_3b067, by decide, by decide⟩ rfl rfl (Nat.le_of_ble_eq_true rfl) (Nat.le_of_ble_eq_true rfl) ?_
  refine ct_J1_charAt_1_0 ?_
  show V_ _ _ _ _ _ _ [_] _
  refine V_ireturn (pc := 15) dJ0_charAt_5068e_15 rfl rfl (fun hR => ?_)
  exact h
theorem ct_J1_charAt_1_1 (h : post (some (vi_ 57)) σ) : V_ l D mJ1_charAt_3b067 (CM_ D mJ1_charAt_3b067 post) 0 [some (vr_ 111), some (vi_ 1)] [] σ := by
  refine V_iload_n (pc := 0) dJ1_charAt_3b067_0 rfl rfl ?_
  refine V_aload_n (pc := 1) dJ1_charAt_3b067_1 rfl rfl ?_
  refine V_strL (i := 1) (n := 4) (pc := 2) dJ1_charAt_3b067_2 (by decide) rfl ?_
  refine V_callS (pc := 3) (as := [_, _]) (rest := []) dJ1_charAt_3b067_3 ⟨kJ1_9, sJ0_checkIndex_df160, by decide, by decide⟩ rfl rfl (Nat.le_of_ble_eq_true rfl) (Nat.le_of_ble_eq_true rfl) ?_
  refine ct_J0_checkIndex_df160 (by decide) (by decide) (by decide) ?_
  show V_ _ _ _ _ _ _ [] _
  refine V_aload_n (pc := 6) dJ1_charAt_3b067_6 rfl rfl ?_
  refine V_iload_n (pc := 7) dJ1_charAt_3b067_7 rfl rfl ?_
  refine V_strB (i := 1) (z := 57) (pc := 8) dJ1_charAt_3b067_8 (by decide) (i3_in (by decide) (by decide) (by decide)) rfl ?_
  refine V_sipush (pc := 9) dJ1_charAt_3b067_9 (by decide) ?_
  refine V_iand (pc := 12) dJ1_charAt_3b067_12 ?_
  refine V_i2c (pc := 13) dJ1_charAt_3b067_13 ?_
  refine V_ireturn (pc := 14) dJ1_charAt_3b067_14 rfl rfl (fun hR => ?_)
  exact h
theorem ct_J0_charAt_1_1 (h : post (some (vi_ 57)) σ) : V_ l D mJ0_charAt_5068e (CM_ D mJ0_charAt_5068e post) 0 [some (vr_ 101), some (vi_ 1)] [] σ := by
  refine V_aload_n (pc := 0) dJ0_charAt_5068e_0 rfl rfl ?_
  refine V_callV (pc := 1) (as := []) (rest := []) dJ0_charAt_5068e_1 ⟨kJ0_492, iJ0_isLatin1_aae02, by decide, by decide⟩ rc_101 rfl rfl (Nat.le_of_ble_eq_true rfl) (Nat.le_of_ble_eq_true rfl) ?_
  refine ct_J0_isLatin1_1 ?_
  show V_ _ _ _ _ _ _ [_] _
  refine V_if_eq (tgt := 16) (pc := 4) dJ0_charAt_5068e_4 (by decide) (by first | assumption | decide | omega | exact ba_rg hR | exact b2_rg) (fun h4 => by omega) (fun h4 => ?_)
  refine V_aload_n (pc := 7) dJ0_charAt_5068e_7 rfl rfl ?_
  refine V_strV (i := 1) (pc := 8) dJ0_charAt_5068e_8 (tb_in 1189 (by decide +kernel) rfl) (by decide) ?_
  refine V_iload_n (pc := 11) dJ0_charAt_5068e_11 rfl rfl ?_
  refine V_callS (pc := 12) (as := [_, _]) (rest := []) dJ0_charAt_5068e_12 ⟨kJ0_495, sJ1_charAt_3b067, by decide, by decide⟩ rfl rfl (Nat.le_of_ble_eq_true rfl) (Nat.le_of_ble_eq_true rfl) ?_
  refine ct_J1_charAt_1_1 ?_
  show V_ _ _ _ _ _ _ [_] _
  refine V_ireturn (pc := 15) dJ0_charAt_5068e_15 rfl rfl (fun hR => ?_)
  exact h
theorem ct_J1_charAt_1_2 (h : post (some (vi_ 108)) σ) : V_ l D mJ1_charAt_3b067 (CM_ D mJ1_charAt_3b067 post) 0 [some (vr_ 111), some (vi_ 2)] [] σ := by
  refine V_iload_n (pc := 0) dJ1_charAt_3b067_0 rfl rfl ?_
  refine V_aload_n (pc := 1) dJ1_charAt_3b067_1 rfl rfl ?_
  refine V_strL (i := 1) (n := 4) (pc := 2) dJ1_charAt_3b067_2 (by decide) rfl ?_
  refine V_callS (pc := 3) (as := [_, _]) (rest := []) dJ1_charAt_3b067_3 ⟨kJ1_9, sJ0_checkIndex_df160, by decide, by decide⟩ rfl rfl (Nat.le_of_ble_eq_true rfl) (Nat.le_of_ble_eq_true rfl) ?_
  refine ct_J0_checkIndex_df160 (by decide) (by decide) (by decide) ?_
  show V_ _ _ _ _ _ _ [] _
  refine V_aload_n (pc := 6) dJ1_charAt_3b067_6 rfl rfl ?_
  refine V_iload_n (pc := 7) dJ1_charAt_3b067_7 rfl rfl ?_
  refine V_strB (i := 1) (z := 108) (pc := 8) dJ1_charAt_3b067_8 (by decide) (i3_in (by decide) (by decide) (by decide)) rfl ?_
  refine V_sipush (pc := 9) dJ1_charAt_3b067_9 (by decide) ?_
  refine V_iand (pc := 12) dJ1_charAt_3b067_12 ?_
  refine V_i2c (pc := 13) dJ1_charAt_3b067_13 ?_
  refine V_ireturn (pc := 14) dJ1_charAt_3b067_14 rfl rfl (fun hR => ?_)
  exact h
theorem ct_J0_charAt_1_2 (h : post (some (vi_ 108)) σ) : V_ l D mJ0_charAt_5068e (CM_ D mJ0_charAt_5068e post) 0 [some (vr_ 101), some (vi_ 2)] [] σ := by
  refine V_aload_n (pc := 0) dJ0_charAt_5068e_0 rfl rfl ?_
  refine V_callV (pc := 1) (as := []) (rest := []) dJ0_charAt_5068e_1 ⟨kJ0_492, iJ0_isLatin1_aae02, by decide, by decide⟩ rc_101 rfl rfl (Nat.le_of_ble_eq_true rfl) (Nat.le_of_ble_eq_true rfl) ?_
  refine ct_J0_isLatin1_1 ?_
  show V_ _ _ _ _ _ _ [_] _
  refine V_if_eq (tgt := 16) (pc := 4) dJ0_charAt_5068e_4 (by decide) (by first | assumption | decide | omega | exact ba_rg hR | exact b2_rg) (fun h4 => by omega) (fun h4 => ?_)
  refine V_aload_n (pc := 7) dJ0_charAt_5068e_7 rfl rfl ?_
  refine V_strV (i := 1) (pc := 8) dJ0_charAt_5068e_8 (tb_in 1189 (by decide +kernel) rfl) (by decide) ?_
  refine V_iload_n (pc := 11) dJ0_charAt_5068e_11 rfl rfl ?_
  refine V_callS (pc := 12) (as := [_, _]) (rest := []) dJ0_charAt_5068e_12 ⟨kJ0_495, sJ1_charAt_3b067, by decide, by decide⟩ rfl rfl (Nat.le_of_ble_eq_true rfl) (Nat.le_of_ble_eq_true rfl) ?_
  refine ct_J1_charAt_1_2 ?_
  show V_ _ _ _ _ _ _ [_] _
  refine V_ireturn (pc := 15) dJ0_charAt_5068e_15 rfl rfl (fun hR => ?_)
  exact h
theorem ct_J1_charAt_1_3 (h : post (some (vi_ 46)) σ) : V_ l D mJ1_charAt_3b067 (CM_ D mJ1_charAt_3b067 post) 0 [some (vr_ 111), some (vi_ 3)] [] σ := by
  refine V_iload_n (pc := 0) dJ1_charAt_3b067_0 rfl rfl ?_
  refine V_aload_n (pc := 1) dJ1_charAt_3b067_1 rfl rfl ?_
  refine V_strL (i := 1) (n := 4) (pc := 2) dJ1_charAt_3b067_2 (by decide) rfl ?_
  refine V_callS (pc := 3) (as := [_, _]) (rest := []) dJ1_charAt_3b067_3 ⟨kJ1_9, sJ0_checkIndex_df160, by decide, by decide⟩ rfl rfl (Nat.le_of_ble_eq_true rfl) (Nat.le_of_ble_eq_true rfl) ?_
  refine ct_J0_checkIndex_df160 (by decide) (by decide) (by decide) ?_
  show V_ _ _ _ _ _ _ [] _
  refine V_aload_n (pc := 6) dJ1_charAt_3b067_6 rfl rfl ?_
  refine V_iload_n (pc := 7) dJ1_charAt_3b067_7 rfl rfl ?_
  refine V_strB (i := 1) (z := 46) (pc := 8) dJ1_charAt_3b067_8 (by decide) (i3_in (by decide) (by decide) (by decide)) rfl ?_
  refine V_sipush (pc := 9) dJ1_charAt_3b067_9 (by decide) ?_
  refine V_iand (pc := 12) dJ1_charAt_3b067_12 ?_
  refine V_i2c (pc := 13) dJ1_charAt_3b067_13 ?_
  refine V_ireturn (pc := 14) dJ1_charAt_3b067_14 rfl rfl (fun hR => ?_)
  exact h
theorem ct_J0_charAt_1_3 (h : post (some (vi_ 46)) σ) : V_ l D mJ0_charAt_5068e (CM_ D mJ0_charAt_5068e post) 0 [some (vr_ 101), some (vi_ 3)] [] σ := by
  refine V_aload_n (pc := 0) dJ0_charAt_5068e_0 rfl rfl ?_
  refine V_callV (pc := 1) (as := []) (rest := []) dJ0_charAt_5068e_1 ⟨kJ0_492, iJ0_isLatin1_aae02, by decide, by decide⟩ rc_101 rfl rfl (Nat.le_of_ble_eq_true rfl) (Nat.le_of_ble_eq_true rfl) ?_
  refine ct_J0_isLatin1_1 ?_
  show V_ _ _ _ _ _ _ [_] _
  refine V_if_eq (tgt := 16) (pc := 4) dJ0_charAt_5068e_4 (by decide) (by first | assumption | decide | omega | exact ba_rg hR | exact b2_rg) (fun h4 => by omega) (fun h4 => ?_)
  refine V_aload_n (pc := 7) dJ0_charAt_5068e_7 rfl rfl ?_
  refine V_strV (i := 1) (pc := 8) dJ0_charAt_5068e_8 (tb_in 1189 (by decide +kernel) rfl) (by decide) ?_
  refine V_iload_n (pc := 11) dJ0_charAt_5068e_11 rfl rfl ?_
  refine V_callS (pc := 12) (as := [_, _]) (rest := []) dJ0_charAt_5068e_12 ⟨kJ0_495, sJ1_charAt_3b067, by decide, by decide⟩ rfl rfl (Nat.le_of_ble_eq_true rfl) (Nat.le_of_ble_eq_true rfl) ?_
  refine ct_J1_charAt_1_3 ?_
  show V_ _ _ _ _ _ _ [_] _
  refine V_ireturn (pc := 15) dJ0_charAt_5068e_15 rfl rfl (fun hR => ?_)
  exact h
theorem ct_J0_coder_2 (h : post (some (vi_ 0)) σ) : V_ l D mJ0_coder_7d493 (CM_ D mJ0_coder_7d493 post) 0 [some (vr_ 102)] [] σ := by
  refine V_getCS (pc := 0) dJ0_coder_7d493_0 (tb_in 40 (by decide +kernel) rfl) ?_
  refine V_if_eq (tgt := 13) (pc := 3) dJ0_coder_7d493_3 (by decide) (by first | assumption | decide | omega | exact ba_rg hR | exact b2_rg) (fun h3 => by omega) (fun h3 => ?_)
  refine V_aload_n (pc := 6) dJ0_coder_7d493_6 rfl rfl ?_
  refine V_strC (i := 2) (pc := 7) dJ0_coder_7d493_7 (tb_in 1190 (by decide +kernel) rfl) (by decide) ?_
  refine V_goto (tgt := 14) (pc := 10) dJ0_coder_7d493_10 (by decide) ?_
  refine V_ireturn (pc := 14) dJ0_coder_7d493_14 rfl rfl (fun hR => ?_)
  exact h
theorem ct_J0_isLatin1_2 (h : post (some (vi_ 1)) σ) : V_ l D mJ0_isLatin1_aae02 (CM_ D mJ0_isLatin1_aae02 post) 0 [some (vr_ 102)] [] σ := by
  refine V_getCS (pc := 0) dJ0_isLatin1_aae02_0 (tb_in 40 (by decide +kernel) rfl) ?_
  refine V_if_eq (tgt := 17) (pc := 3) dJ0_isLatin1_aae02_3 (by decide) (by first | assumption | decide | omega | exact ba_rg hR | exact b2_rg) (fun h3 => by omega) (fun h3 => ?_)
  refine V_aload_n (pc := 6) dJ0_isLatin1_aae02_6 rfl rfl ?_
  refine V_strC (i := 2) (pc := 7) dJ0_isLatin1_aae02_7 (tb_in 1190 (by decide +kernel) rfl) (by decide) ?_
  refine V_if_ne (tgt := 17) (pc := 10) dJ0_isLatin1_aae02_10 (by decide) (by first | assumption | decide | omega | exact ba_rg hR | exact b2_rg) (fun h10 => by omega) (fun h10 => ?_)
  refine V_iconst (pc := 13) dJ0_isLatin1_aae02_13 ?_
  refine V_goto (tgt := 18) (pc := 14) dJ0_isLatin1_aae02_14 (by decide) ?_
  refine V_ireturn (pc := 18) dJ0_isLatin1_aae02_18 rfl rfl (fun hR => ?_)
  exact h
theorem ct_J0_length_2 (h : post (some (vi_ 4)) σ) : V_ l D mJ0_length_8abf5 (CM_ D mJ0_length_8abf5 post) 0 [some (vr_ 102)] [] σ := by
  refine V_aload_n (pc := 0) dJ0_length_8abf5_0 rfl rfl ?_
  refine V_strV (i := 2) (pc := 1) dJ0_length_8abf5_1 (tb_in 1189 (by decide +kernel) rfl) (by decide) ?_
  refine V_strL (i := 2) (n := 4) (pc := 4) dJ0_length_8abf5_4 (by decide) rfl ?_
  refine V_aload_n (pc := 5) dJ0_length_8abf5_5 rfl rfl ?_
  refine V_callV (pc := 6) (as := []) (rest := [_]) dJ0_length_8abf5_6 ⟨kJ0_335, iJ0_coder_7d493, by decide, by decide⟩ rc_102 rfl rfl (Nat.le_of_ble_eq_true rfl) (Nat.le_of_ble_eq_true rfl) ?_
  refine ct_J0_coder_2 ?_
  show V_ _ _ _ _ _ _ [_, _] _
  refine V_ishr (pc := 9) dJ0_length_8abf5_9 ?_
  refine V_ireturn (pc := 10) dJ0_length_8abf5_10 rfl rfl (fun hR => ?_)
  exact h
theorem ct_J1_charAt_2_0 (h : post (some (vi_ 53)) σ) : V_ l D mJ1_charAt_3b067 (CM_ D mJ1_charAt_3b067 post) 0 [some (vr_ 112), some (vi_ 0)] [] σ := by
  refine V_iload_n (pc := 0) dJ1_charAt_3b067_0 rfl rfl ?_
  refine V_aload_n (pc := 1) dJ1_charAt_3b067_1 rfl rfl ?_
  refine V_strL (i := 2) (n := 4) (pc := 2) dJ1_charAt_3b067_2 (by decide) rfl ?_
  refine V_callS (pc := 3) (as := [_, _]) (rest := []) dJ1_charAt_3b067_3 ⟨kJ1_9, sJ0_checkIndex_df160, by decide, by decide⟩ rfl rfl (Nat.le_of_ble_eq_true rfl) (Nat.le_of_ble_eq_true rfl) ?_
  refine ct_J0_checkIndex_df160 (by decide) (by decide) (by decide) ?_
  show V_ _ _ _ _ _ _ [] _
  refine V_aload_n (pc := 6) dJ1_charAt_3b067_6 rfl rfl ?_
  refine V_iload_n (pc := 7) dJ1_charAt_3b067_7 rfl rfl ?_
  refine V_strB (i := 2) (z := 53) (pc := 8) dJ1_charAt_3b067_8 (by decide) (i3_in (by decide) (by decide) (by decide)) rfl ?_
  refine V_sipush (pc := 9) dJ1_charAt_3b067_9 (by decide) ?_
  refine V_iand (pc := 12) dJ1_charAt_3b067_12 ?_
  refine V_i2c (pc := 13) dJ1_charAt_3b067_13 ?_
  refine V_ireturn (pc := 14) dJ1_charAt_3b067_14 rfl rfl (fun hR => ?_)
  exact h
theorem ct_J0_charAt_2_0 (h : post (some (vi_ 53)) σ) : V_ l D mJ0_charAt_5068e (CM_ D mJ0_charAt_5068e post) 0 [some (vr_ 102), some (vi_ 0)] [] σ := by
  refine V_aload_n (pc := 0) dJ0_charAt_5068e_0 rfl rfl ?_
  refine V_callV (pc := 1) (as := []) (rest := []) dJ0_charAt_5068e_1 ⟨kJ0_492, iJ0_isLatin1_aae02, by decide, by decide⟩ rc_102 rfl rfl (Nat.le_of_ble_eq_true rfl) (Nat.le_of_ble_eq_true rfl) ?_
  refine ct_J0_isLatin1_2 ?_
  show V_ _ _ _ _ _ _ [_] _
  refine V_if_eq (tgt := 16) (pc := 4) dJ0_charAt_5068e_4 (by decide) (by first | assumption | decide | omega | exact ba_rg hR | exact b2_rg) (fun h4 => by omega) (fun h4 => ?_)
  refine V_aload_n (pc := 7) dJ0_charAt_5068e_7 rfl rfl ?_
  refine V_strV (i := 2) (pc := 8) dJ0_charAt_5068e_8 (tb_in 1189 (by decide +kernel) rfl) (by decide) ?_
  refine V_iload_n (pc := 11) dJ0_charAt_5068e_11 rfl rfl ?_
  refine V_callS (pc := 12) (as := [_, _]) (rest := []) dJ0_charAt_5068e_12 ⟨kJ0_495, sJ1_charAt_3b067, by decide, by decide⟩ rfl rfl (Nat.le_of_ble_eq_true rfl) (Nat.le_of_ble_eq_true rfl) ?_
  refine ct_J1_charAt_2_0 ?_
  show V_ _ _ _ _ _ _ [_] _
  refine V_ireturn (pc := 15) dJ0_charAt_5068e_15 rfl rfl (fun hR => ?_)
  exact h
theorem ct_J1_charAt_2_1 (h : post (some (vi_ 97)) σ) : V_ l D mJ1_charAt_3b067 (CM_ D mJ1_charAt_3b067 post) 0 [some (vr_ 112), some (vi_ 1)] [] σ := by
  refine V_iload_n (pc := 0) dJ1_charAt_3b067_0 rfl rfl ?_
  refine V_aload_n (pc := 1) dJ1_charAt_3b067_1 rfl rfl ?_
  refine V_strL (i := 2) (n := 4) (pc := 2) dJ1_charAt_3b067_2 (by decide) rfl ?_
  refine V_callS (pc := 3) (as := [_, _]) (rest := []) dJ1_charAt_3b067_3 ⟨kJ1_9, sJ0_checkIndex_df160, by decide, by decide⟩ rfl rfl (Nat.le_of_ble_eq_true rfl) (Nat.le_of_ble_eq_true rfl) ?_
  refine ct_J0_checkIndex_df160 (by decide) (by decide) (by decide) ?_
  show V_ _ _ _ _ _ _ [] _
  refine V_aload_n (pc := 6) dJ1_charAt_3b067_6 rfl rfl ?_
  refine V_iload_n (pc := 7) dJ1_charAt_3b067_7 rfl rfl ?_
  refine V_strB (i := 2) (z := 97) (pc := 8) dJ1_charAt_3b067_8 (by decide) (i3_in (by decide) (by decide) (by decide)) rfl ?_
  refine V_sipush (pc := 9) dJ1_charAt_3b067_9 (by decide) ?_
  refine V_iand (pc := 12) dJ1_charAt_3b067_12 ?_
  refine V_i2c (pc := 13) dJ1_charAt_3b067_13 ?_
  refine V_ireturn (pc := 14) dJ1_charAt_3b067_14 rfl rfl (fun hR => ?_)
  exact h
theorem ct_J0_charAt_2_1 (h : post (some (vi_ 97)) σ) : V_ l D mJ0_charAt_5068e (CM_ D mJ0_charAt_5068e post) 0 [some (vr_ 102), some (vi_ 1)] [] σ := by
  refine V_aload_n (pc := 0) dJ0_charAt_5068e_0 rfl rfl ?_
  refine V_callV (pc := 1) (as := []) (rest := []) dJ0_charAt_5068e_1 ⟨kJ0_492, iJ0_isLatin1_aae02, by decide, by decide⟩ rc_102 rfl rfl (Nat.le_of_ble_eq_true rfl) (Nat.le_of_ble_eq_true rfl) ?_
  refine ct_J0_isLatin1_2 ?_
  show V_ _ _ _ _ _ _ [_] _
  refine V_if_eq (tgt := 16) (pc := 4) dJ0_charAt_5068e_4 (by decide) (by first | assumption | decide | omega | exact ba_rg hR | exact b2_rg) (fun h4 => by omega) (fun h4 => ?_)
  refine V_aload_n (pc := 7) dJ0_charAt_5068e_7 rfl rfl ?_
  refine V_strV (i := 2) (pc := 8) dJ0_charAt_5068e_8 (tb_in 1189 (by decide +kernel) rfl) (by decide) ?_
  refine V_iload_n (pc := 11) dJ0_charAt_5068e_11 rfl rfl ?_
  refine V_callS (pc := 12) (as := [_, _]) (rest := []) dJ0_charAt_5068e_12 ⟨kJ0_495, sJ1_charAt_3b067, by decide, by decide⟩ rfl rfl (Nat.le_of_ble_eq_true rfl) (Nat.le_of_ble_eq_true rfl) ?_
  refine ct_J1_charAt_2_1 ?_
  show V_ _ _ _ _ _ _ [_] _
  refine V_ireturn (pc := 15) dJ0_charAt_5068e_15 rfl rfl (fun hR => ?_)
  exact h
theorem ct_J1_charAt_2_2 (h : post (some (vi_ 57)) σ) : V_ l D mJ1_charAt_3b067 (CM_ D mJ1_charAt_3b067 post) 0 [some (vr_ 112), some (vi_ 2)] [] σ := by
  refine V_iload_n (pc := 0) dJ1_charAt_3b067_0 rfl rfl ?_
  refine V_aload_n (pc := 1) dJ1_charAt_3b067_1 rfl rfl ?_
  refine V_strL (i := 2) (n := 4) (pc := 2) dJ1_charAt_3b067_2 (by decide) rfl ?_
  refine V_callS (pc := 3) (as := [_, _]) (rest := []) dJ1_charAt_3b067_3 ⟨kJ1_9, sJ0_checkIndex_df160, by decide, by decide⟩ rfl rfl (Nat.le_of_ble_eq_true rfl) (Nat.le_of_ble_eq_true rfl) ?_
  refine ct_J0_checkIndex_df160 (by decide) (by decide) (by decide) ?_
  show V_ _ _ _ _ _ _ [] _
  refine V_aload_n (pc := 6) dJ1_charAt_3b067_6 rfl rfl ?_
  refine V_iload_n (pc := 7) dJ1_charAt_3b067_7 rfl rfl ?_
  refine V_strB (i := 2) (z := 57) (pc := 8) dJ1_charAt_3b067_8 (by decide) (i3_in (by decide) (by decide) (by decide)) rfl ?_
  refine V_sipush (pc := 9) dJ1_charAt_3b067_9 (by decide) ?_
  refine V_iand (pc := 12) dJ1_charAt_3b067_12 ?_
  refine V_i2c (pc := 13) dJ1_charAt_3b067_13 ?_
  refine V_ireturn (pc := 14) dJ1_charAt_3b067_14 rfl rfl (fun hR => ?_)
  exact h
theorem ct_J0_charAt_2_2 (h : post (some (vi_ 57)) σ) : V_ l D mJ0_charAt_5068e (CM_ D mJ0_charAt_5068e post) 0 [some (vr_ 102), some (vi_ 2)] [] σ := by
  refine V_aload_n (pc := 0) dJ0_charAt_5068e_0 rfl rfl ?_
  refine V_callV (pc := 1) (as := []) (rest := []) dJ0_charAt_5068e_1 ⟨kJ0_492, iJ0_isLatin1_aae02, by decide, by decide⟩ rc_102 rfl rfl (Nat.le_of_ble_eq_true rfl) (Nat.le_of_ble_eq_true rfl) ?_
  refine ct_J0_isLatin1_2 ?_
  show V_ _ _ _ _ _ _ [_] _
  refine V_if_eq (tgt := 16) (pc := 4) dJ0_charAt_5068e_4 (by decide) (by first | assumption | decide | omega | exact ba_rg hR | exact b2_rg) (fun h4 => by omega) (fun h4 => ?_)
  refine V_aload_n (pc := 7) dJ0_charAt_5068e_7 rfl rfl ?_
  refine V_strV (i := 2) (pc := 8) dJ0_charAt_5068e_8 (tb_in 1189 (by decide +kernel) rfl) (by decide) ?_
  refine V_iload_n (pc := 11) dJ0_charAt_5068e_11 rfl rfl ?_
  refine V_callS (pc := 12) (as := [_, _]) (rest := []) dJ0_charAt_5068e_12 ⟨kJ0_495, sJ1_charAt_3b067, by decide, by decide⟩ rfl rfl (Nat.le_of_ble_eq_true rfl) (Nat.le_of_ble_eq_true rfl) ?_
  refine ct_J1_charAt_2_2 ?_
  show V_ _ _ _ _ _ _ [_] _
  refine V_ireturn (pc := 15) dJ0_charAt_5068e_15 rfl rfl (fun hR => ?_)
  exact h
theorem ct_J1_charAt_2_3 (h : post (some (vi_ 49)) σ) : V_ l D mJ1_charAt_3b067 (CM_ D mJ1_charAt_3b067 post) 0 [some (vr_ 112), some (vi_ 3)] [] σ := by
  refine V_iload_n (pc := 0) dJ1_charAt_3b067_0 rfl rfl ?_
  refine V_aload_n (pc := 1) dJ1_charAt_3b067_1 rfl rfl ?_
  refine V_strL (i := 2) (n := 4) (pc := 2) dJ1_charAt_3b067_2 (by decide) rfl ?_
  refine V_callS (pc := 3) (as := [_, _]) (rest := []) dJ1_charAt_3b067_3 ⟨kJ1_9, sJ0_checkIndex_df160, by decide, by decide⟩ rfl rfl (Nat.le_of_ble_eq_true rfl) (Nat.le_of_ble_eq_true rfl) ?_
  refine ct_J0_checkIndex_df160 (by decide) (by decide) (by decide) ?_
  show V_ _ _ _ _ _ _ [] _
  refine V_aload_n (pc := 6) dJ1_charAt_3b067_6 rfl rfl ?_
  refine V_iload_n (pc := 7) dJ1_charAt_3b067_7 rfl rfl ?_
  refine V_strB (i := 2) (z := 49) (pc := 8) dJ1_charAt_3b067_8 (by decide) (i3_in (by decide) (by decide) (by decide)) rfl ?_
  refine V_sipush (pc := 9) dJ1_charAt_3b067_9 (by decide) ?_
  refine V_iand (pc := 12) dJ1_charAt_3b067_12 ?_
  refine V_i2c (pc := 13) dJ1_charAt_3b067_13 ?_
  refine V_ireturn (pc := 14) dJ1_charAt_3b067_14 rfl rfl (fun hR => ?_)
  exact h
theorem ct_J0_charAt_2_3 (h : post (some (vi_ 49)) σ) : V_ l D mJ0_charAt_5068e (CM_ D mJ0_charAt_5068e post) 0 [some (vr_ 102), some (vi_ 3)] [] σ := by
  refine V_aload_n (pc := 0) dJ0_charAt_5068e_0 rfl rfl ?_
  refine V_callV (pc := 1) (as := []) (rest := []) dJ0_charAt_5068e_1 ⟨kJ0_492, iJ0_isLatin1_aae02, by decide, by decide⟩ rc_102 rfl rfl (Nat.le_of_ble_eq_true rfl) (Nat.le_of_ble_eq_true rfl) ?_
  refine ct_J0_isLatin1_2 ?_
  show V_ _ _ _ _ _ _ [_] _
  refine V_if_eq (tgt := 16) (pc := 4) dJ0_charAt_5068e_4 (by decide) (by first | assumption | decide | omega | exact ba_rg hR | exact b2_rg) (fun h4 => by omega) (fun h4 => ?_)
  refine V_aload_n (pc := 7) dJ0_charAt_5068e_7 rfl rfl ?_
  refine V_strV (i := 2) (pc := 8) dJ0_charAt_5068e_8 (tb_in 1189 (by decide +kernel) rfl) (by decide) ?_
  refine V_iload_n (pc := 11) dJ0_charAt_5068e_11 rfl rfl ?_
  refine V_callS (pc := 12) (as := [_, _]) (rest := []) dJ0_charAt_5068e_12 ⟨kJ0_495, sJ1_charAt_3b067, by decide, by decide⟩ rfl rfl (Nat.le_of_ble_eq_true rfl) (Nat.le_of_ble_eq_true rfl) ?_
  refine ct_J1_charAt_2_3 ?_
  show V_ _ _ _ _ _ _ [_] _
  refine V_ireturn (pc := 15) dJ0_charAt_5068e_15 rfl rfl (fun hR => ?_)
  exact h
end
