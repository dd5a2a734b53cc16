/-! the law: its loop and its start -/
theorem le6 {i L : Nat} (h384 : L ≤ 384) (hiL : i ≤ L) (h : nI i ≤ nI L - 6) : i + 6 ≤ L := by
  have h1 := Int32.le_iff_toInt_le.mp h
  have h2 : (nI L - 6).toInt = (L : Int) - 6 := pk_sub_toInt (a := L) (b := 6) (by omega) (by omega)
  rw [h2, nI_toInt (by omega)] at h1
  omega
theorem qL_law_18 : Dq cL_law 18 (.iload_n 3) 1 19 := ⟨by decide +kernel, rfl⟩
theorem qL_law_19 : Dq cL_law 19 (.aload_n 0) 1 20 := ⟨by decide +kernel, rfl⟩
theorem qL_law_20 : Dq cL_law 20 (.arraylength) 1 21 := ⟨by decide +kernel, rfl⟩
theorem qL_law_21 : Dq cL_law 21 (.bipush 6) 2 23 := ⟨by decide +kernel, rfl⟩
theorem qL_law_23 : Dq cL_law 23 (.isub) 1 24 := ⟨by decide +kernel, rfl⟩
theorem qL_law_24 : Dq cL_law 24 (.if_icmp .gt 1117) 3 27 := ⟨by decide +kernel, rfl⟩
theorem qL_law_27 : Dq cL_law 27 (.aload_n 0) 1 28 := ⟨by decide +kernel, rfl⟩
theorem qL_law_28 : Dq cL_law 28 (.iload_n 3) 1 29 := ⟨by decide +kernel, rfl⟩
theorem qL_law_29 : Dq cL_law 29 (.iaload) 1 30 := ⟨by decide +kernel, rfl⟩
theorem qL_law_30 : Dq cL_law 30 (.bipush 31) 2 32 := ⟨by decide +kernel, rfl⟩
theorem qL_law_32 : Dq cL_law 32 (.iand) 1 33 := ⟨by decide +kernel, rfl⟩
theorem qL_law_33 : Dq cL_law 33 (.tableswitch 1102 0 31 #[143, 186, 219, 252, 295, 318, 331, 354, 387, 410, 443, 466, 479, 502, 536, 560, 583, 606, 629, 662, 705, 728, 762, 785, 818, 831, 844, 867, 910, 953, 1016, 1069]) 143 176 := ⟨by decide +kernel, rfl⟩
theorem qL_law_1135 : Dq cL_law 1135 (.iinc 3 6) 3 1138 := ⟨by decide +kernel, rfl⟩
theorem qL_law_1138 : Dq cL_law 1138 (.goto (-1120)) 3 1141 := ⟨by decide +kernel, rfl⟩
set_option maxRecDepth 100000 in
set_option maxHeartbeats 4000000 in
theorem law_loop {X : Cx} {G : Glb} {L : Nat} {xsc : Nat → Int32} {Q : State → Prop} (hl : LwX X G L xsc) (hend : ∀ (i k n : Nat) (h : AHp), k ≤ 600000 → n ≤ 7302250 → V X G 4 k n Q 1141 [some (.ref 1000000), some (.ref 0), some (.ref 38), some (.int (nI i))] [] h) : ∀ (mz i c : Nat) (h : AHp) (E : Sst), L - i = mz → i = 6 * c → i ≤ L → LwI h E c → V X G 4 (58 + 6 * c) (4289 + 6 * c) Q 18 [some (.ref 1000000), some (.ref 0), some (.ref 38), some (.int (nI i))] [] h := by
  intro mz
  induction mz using Nat.strongRecOn with
  | _ mz ih =>
    intro i c h E hmz hic hiL hI
    obtain ⟨hX, hR, -, -, -, h384⟩ := id hl
    have hb : i + 6 ≤ L → ∀ h' E', LwI h' E' (c + 1) → V X G 4 (58 + 6 * (c + 1)) (4289 + 6 * (c + 1)) Q 1135 [some (.ref 1000000), some (.ref 0), some (.ref 38), some (.int (nI i))] [] h' := by
      intro hi h' E' hI'
      refine v_iinc hX rfl (by exact nI_add i 6) (Nat.le_of_ble_eq_true rfl) rfl (ls' := [some _, some _, some _, some _]) rfl qL_law_1135 ?_
      refine v_goto hX 18 qL_law_1138 rfl ?_
      exact ih _ (by omega) (i + 6) (c + 1) h' E' rfl (by omega) hi hI'
    refine v_iload_n hX rfl qL_law_18 ?_
    refine v_aload_n hX rfl qL_law_19 ?_
    refine hl.slen qL_law_20 ?_
    refine v_bipush hX lb_6 qL_law_21 ?_
    refine v_isub hX qL_law_23 ?_
    refine v_icmp_gtS hX 1141 qL_law_24 rfl (fun q24 => ?_) (fun q24 => ?_)
    · skip
      exact hend i _ _ h (by omega) (by omega)
    · have hi : i + 6 ≤ L := le6 h384 hiL q24
      refine v_aload_n hX rfl qL_law_27 ?_
      refine v_iload_n hX rfl qL_law_28 ?_
      refine hl.sld (j := i) rfl (by omega) qL_law_29 ?_
      refine v_bipush hX lb_31 qL_law_30 ?_
      refine v_iand hX qL_law_32 ?_
      refine v_case (0 : Int32) (fun q33 => ?_) (fun q33_0 => ?_)
      · skip
        refine v_tableIn (off := 143) hX 176 qL_law_33 (by first | exact (by rw [q33]; decide) | decide) (by first | exact (by rw [q33]; decide) | decide) (by first | exact (by rw [q33]; rfl) | rfl) rfl ?_
        exact law_00 hl hi (by omega) hI (hb hi)
      refine v_case (1 : Int32) (fun q33 => ?_) (fun q33_1 => ?_)
      · skip
        refine v_tableIn (off := 186) hX 219 qL_law_33 (by first | exact (by rw [q33]; decide) | decide) (by first | exact (by rw [q33]; decide) | decide) (by first | exact (by rw [q33]; rfl) | rfl) rfl ?_
        exact law_01 hl hi (by omega) hI (hb hi)
      refine v_case (2 : Int32) (fun q33 => ?_) (fun q33_2 => ?_)
      · skip
        refine v_tableIn (off := 219) hX 252 qL_law_33 (by first | exact (by rw [q33]; decide) | decide) (by first | exact (by rw [q33]; decide) | decide) (by first | exact (by rw [q33]; rfl) | rfl) rfl ?_
        exact law_02 hl hi (by omega) hI (hb hi)
      refine v_case (3 : Int32) (fun q33 => ?_) (fun q33_3 => ?_)
      · skip
        refine v_tableIn (off := 252) hX 285 qL_law_33 (by first | exact (by rw [q33]; decide) | decide) (by first | exact (by rw [q33]; decide) | decide) (by first | exact (by rw [q33]; rfl) | rfl) rfl ?_
        exact law_03 hl hi (by omega) hI (hb hi)
      refine v_case (4 : Int32) (fun q33 => ?_) (fun q33_4 => ?_)
      · skip
        refine v_tableIn (off := 295) hX 328 qL_law_33 (by first | exact (by rw [q33]; decide) | decide) (by first | exact (by rw [q33]; decide) | decide) (by first | exact (by rw [q33]; rfl) | rfl) rfl ?_
        exact law_04 hl hi (by omega) hI (hb hi)
      refine v_case (5 : Int32) (fun q33 => ?_) (fun q33_5 => ?_)
      · skip
        refine v_tableIn (off := 318) hX 351 qL_law_33 (by first | exact (by rw [q33]; decide) | decide) (by first | exact (by rw [q33]; decide) | decide) (by first | exact (by rw [q33]; rfl) | rfl) rfl ?_
        exact law_05 hl hi (by omega) hI (hb hi)
      refine v_case (6 : Int32) (fun q33 => ?_) (fun q33_6 => ?_)
      · skip
        refine v_tableIn (off := 331) hX 364 qL_law_33 (by first | exact (by rw [q33]; decide) | decide) (by first | exact (by rw [q33]; decide) | decide) (by first | exact (by rw [q33]; rfl) | rfl) rfl ?_
        exact law_06 hl hi (by omega) hI (hb hi)
      refine v_case (7 : Int32) (fun q33 => ?_) (fun q33_7 => ?_)
      · skip
        refine v_tableIn (off := 354) hX 387 qL_law_33 (by first | exact (by rw [q33]; decide) | decide) (by first | exact (by rw [q33]; decide) | decide) (by first | exact (by rw [q33]; rfl) | rfl) rfl ?_
        exact law_07 hl hi (by omega) hI (hb hi)
      refine v_case (8 : Int32) (fun q33 => ?_) (fun q33_8 => ?_)
      · skip
        refine v_tableIn (off := 387) hX 420 qL_law_33 (by first | exact (by rw [q33]; decide) | decide) (by first | exact (by rw [q33]; decide) | decide) (by first | exact (by rw [q33]; rfl) | rfl) rfl ?_
        exact law_08 hl hi (by omega) hI (hb hi)
      refine v_case (9 : Int32) (fun q33 => ?_) (fun q33_9 => ?_)
      · skip
        refine v_tableIn (off := 410) hX 443 qL_law_33 (by first | exact (by rw [q33]; decide) | decide) (by first | exact (by rw [q33]; decide) | decide) (by first | exact (by rw [q33]; rfl) | rfl) rfl ?_
        exact law_09 hl hi (by omega) hI (hb hi)
      refine v_case (10 : Int32) (fun q33 => ?_) (fun q33_10 => ?_)
      · skip
        refine v_tableIn (off := 443) hX 476 qL_law_33 (by first | exact (by rw [q33]; decide) | decide) (by first | exact (by rw [q33]; decide) | decide) (by first | exact (by rw [q33]; rfl) | rfl) rfl ?_
        exact law_10 hl hi (by omega) hI (hb hi)
      refine v_case (11 : Int32) (fun q33 => ?_) (fun q33_11 => ?_)
      · skip
        refine v_tableIn (off := 466) hX 499 qL_law_33 (by first | exact (by rw [q33]; decide) | decide) (by first | exact (by rw [q33]; decide) | decide) (by first | exact (by rw [q33]; rfl) | rfl) rfl ?_
        exact law_11 hl hi (by omega) hI (hb hi)
      refine v_case (12 : Int32) (fun q33 => ?_) (fun q33_12 => ?_)
      · skip
        refine v_tableIn (off := 479) hX 512 qL_law_33 (by first | exact (by rw [q33]; decide) | decide) (by first | exact (by rw [q33]; decide) | decide) (by first | exact (by rw [q33]; rfl) | rfl) rfl ?_
        exact law_12 hl hi (by omega) hI (hb hi)
      refine v_case (13 : Int32) (fun q33 => ?_) (fun q33_13 => ?_)
      · skip
        refine v_tableIn (off := 502) hX 535 qL_law_33 (by first | exact (by rw [q33]; decide) | decide) (by first | exact (by rw [q33]; decide) | decide) (by first | exact (by rw [q33]; rfl) | rfl) rfl ?_
        exact law_13 hl hi (by omega) hI (hb hi)
      refine v_case (14 : Int32) (fun q33 => ?_) (fun q33_14 => ?_)
      · skip
        refine v_tableIn (off := 536) hX 569 qL_law_33 (by first | exact (by rw [q33]; decide) | decide) (by first | exact (by rw [q33]; decide) | decide) (by first | exact (by rw [q33]; rfl) | rfl) rfl ?_
        exact law_14 hl hi (by omega) hI (hb hi)
      refine v_case (15 : Int32) (fun q33 => ?_) (fun q33_15 => ?_)
      · skip
        refine v_tableIn (off := 560) hX 593 qL_law_33 (by first | exact (by rw [q33]; decide) | decide) (by first | exact (by rw [q33]; decide) | decide) (by first | exact (by rw [q33]; rfl) | rfl) rfl ?_
        exact law_15 hl hi (by omega) hI (hb hi)
      refine v_case (16 : Int32) (fun q33 => ?_) (fun q33_16 => ?_)
      · skip
        refine v_tableIn (off := 583) hX 616 qL_law_33 (by first | exact (by rw [q33]; decide) | decide) (by first | exact (by rw [q33]; decide) | decide) (by first | exact (by rw [q33]; rfl) | rfl) rfl ?_
        exact law_16 hl hi (by omega) hI (hb hi)
      refine v_case (17 : Int32) (fun q33 => ?_) (fun q33_17 => ?_)
      · skip
        refine v_tableIn (off := 606) hX 639 qL_law_33 (by first | exact (by rw [q33]; decide) | decide) (by first | exact (by rw [q33]; decide) | decide) (by first | exact (by rw [q33]; rfl) | rfl) rfl ?_
        exact law_17 hl hi (by omega) hI (hb hi)
      refine v_case (18 : Int32) (fun q33 => ?_) (fun q33_18 => ?_)
      · skip
        refine v_tableIn (off := 629) hX 662 qL_law_33 (by first | exact (by rw [q33]; decide) | decide) (by first | exact (by rw [q33]; decide) | decide) (by first | exact (by rw [q33]; rfl) | rfl) rfl ?_
        exact law_18 hl hi (by omega) hI (hb hi)
      refine v_case (19 : Int32) (fun q33 => ?_) (fun q33_19 => ?_)
      · skip
        refine v_tableIn (off := 662) hX 695 qL_law_33 (by first | exact (by rw [q33]; decide) | decide) (by first | exact (by rw [q33]; decide) | decide) (by first | exact (by rw [q33]; rfl) | rfl) rfl ?_
        exact law_19 hl hi (by omega) hI (hb hi)
      refine v_case (20 : Int32) (fun q33 => ?_) (fun q33_20 => ?_)
      · skip
        refine v_tableIn (off := 705) hX 738 qL_law_33 (by first | exact (by rw [q33]; decide) | decide) (by first | exact (by rw [q33]; decide) | decide) (by first | exact (by rw [q33]; rfl) | rfl) rfl ?_
        exact law_20 hl hi (by omega) hI (hb hi)
      refine v_case (21 : Int32) (fun q33 => ?_) (fun q33_21 => ?_)
      · skip
        refine v_tableIn (off := 728) hX 761 qL_law_33 (by first | exact (by rw [q33]; decide) | decide) (by first | exact (by rw [q33]; decide) | decide) (by first | exact (by rw [q33]; rfl) | rfl) rfl ?_
        exact law_21 hl hi (by omega) hI (hb hi)
      refine v_case (22 : Int32) (fun q33 => ?_) (fun q33_22 => ?_)
      · skip
        refine v_tableIn (off := 762) hX 795 qL_law_33 (by first | exact (by rw [q33]; decide) | decide) (by first | exact (by rw [q33]; decide) | decide) (by first | exact (by rw [q33]; rfl) | rfl) rfl ?_
        exact law_22 hl hi (by omega) hI (hb hi)
      refine v_case (23 : Int32) (fun q33 => ?_) (fun q33_23 => ?_)
      · skip
        refine v_tableIn (off := 785) hX 818 qL_law_33 (by first | exact (by rw [q33]; decide) | decide) (by first | exact (by rw [q33]; decide) | decide) (by first | exact (by rw [q33]; rfl) | rfl) rfl ?_
        exact law_23 hl hi (by omega) hI (hb hi)
      refine v_case (24 : Int32) (fun q33 => ?_) (fun q33_24 => ?_)
      · skip
        refine v_tableIn (off := 818) hX 851 qL_law_33 (by first | exact (by rw [q33]; decide) | decide) (by first | exact (by rw [q33]; decide) | decide) (by first | exact (by rw [q33]; rfl) | rfl) rfl ?_
        exact law_24 hl hi (by omega) hI (hb hi)
      refine v_case (25 : Int32) (fun q33 => ?_) (fun q33_25 => ?_)
      · skip
        refine v_tableIn (off := 831) hX 864 qL_law_33 (by first | exact (by rw [q33]; decide) | decide) (by first | exact (by rw [q33]; decide) | decide) (by first | exact (by rw [q33]; rfl) | rfl) rfl ?_
        exact law_25 hl hi (by omega) hI (hb hi)
      refine v_case (26 : Int32) (fun q33 => ?_) (fun q33_26 => ?_)
      · skip
        refine v_tableIn (off := 844) hX 877 qL_law_33 (by first | exact (by rw [q33]; decide) | decide) (by first | exact (by rw [q33]; decide) | decide) (by first | exact (by rw [q33]; rfl) | rfl) rfl ?_
        exact law_26 hl hi (by omega) hI (hb hi)
      refine v_case (27 : Int32) (fun q33 => ?_) (fun q33_27 => ?_)
      · skip
        refine v_tableIn (off := 867) hX 900 qL_law_33 (by first | exact (by rw [q33]; decide) | decide) (by first | exact (by rw [q33]; decide) | decide) (by first | exact (by rw [q33]; rfl) | rfl) rfl ?_
        exact law_27 hl hi (by omega) hI (hb hi)
      refine v_case (28 : Int32) (fun q33 => ?_) (fun q33_28 => ?_)
      · skip
        refine v_tableIn (off := 910) hX 943 qL_law_33 (by first | exact (by rw [q33]; decide) | decide) (by first | exact (by rw [q33]; decide) | decide) (by first | exact (by rw [q33]; rfl) | rfl) rfl ?_
        exact law_28 hl hi (by omega) hI (hb hi)
      refine v_case (29 : Int32) (fun q33 => ?_) (fun q33_29 => ?_)
      · skip
        refine v_tableIn (off := 953) hX 986 qL_law_33 (by first | exact (by rw [q33]; decide) | decide) (by first | exact (by rw [q33]; decide) | decide) (by first | exact (by rw [q33]; rfl) | rfl) rfl ?_
        exact law_29 hl hi (by omega) hI (hb hi)
      refine v_case (30 : Int32) (fun q33 => ?_) (fun q33_30 => ?_)
      · skip
        refine v_tableIn (off := 1016) hX 1049 qL_law_33 (by first | exact (by rw [q33]; decide) | decide) (by first | exact (by rw [q33]; decide) | decide) (by first | exact (by rw [q33]; rfl) | rfl) rfl ?_
        exact law_30 hl hi (by omega) hI (hb hi)
      refine v_case (31 : Int32) (fun q33 => ?_) (fun q33_31 => ?_)
      · skip
        refine v_tableIn (off := 1069) hX 1102 qL_law_33 (by first | exact (by rw [q33]; decide) | decide) (by first | exact (by rw [q33]; decide) | decide) (by first | exact (by rw [q33]; rfl) | rfl) rfl ?_
        exact law_31 hl hi (by omega) hI (hb hi)
      refine v_tableOut hX 1135 qL_law_33 ?_ rfl ?_
      · have z0 := ne_i (0) (by decide) q33_0; have z1 := ne_i (1) (by decide) q33_1; have z2 := ne_i (2) (by decide) q33_2; have z3 := ne_i (3) (by decide) q33_3; have z4 := ne_i (4) (by decide) q33_4; have z5 := ne_i (5) (by decide) q33_5; have z6 := ne_i (6) (by decide) q33_6; have z7 := ne_i (7) (by decide) q33_7; have z8 := ne_i (8) (by decide) q33_8; have z9 := ne_i (9) (by decide) q33_9; have z10 := ne_i (10) (by decide) q33_10; have z11 := ne_i (11) (by decide) q33_11; have z12 := ne_i (12) (by decide) q33_12; have z13 := ne_i (13) (by decide) q33_13; have z14 := ne_i (14) (by decide) q33_14; have z15 := ne_i (15) (by decide) q33_15; have z16 := ne_i (16) (by decide) q33_16; have z17 := ne_i (17) (by decide) q33_17; have z18 := ne_i (18) (by decide) q33_18; have z19 := ne_i (19) (by decide) q33_19; have z20 := ne_i (20) (by decide) q33_20; have z21 := ne_i (21) (by decide) q33_21; have z22 := ne_i (22) (by decide) q33_22; have z23 := ne_i (23) (by decide) q33_23; have z24 := ne_i (24) (by decide) q33_24; have z25 := ne_i (25) (by decide) q33_25; have z26 := ne_i (26) (by decide) q33_26; have z27 := ne_i (27) (by decide) q33_27; have z28 := ne_i (28) (by decide) q33_28; have z29 := ne_i (29) (by decide) q33_29; have z30 := ne_i (30) (by decide) q33_30; have z31 := ne_i (31) (by decide) q33_31; omega
      refine v_widen (rt := none) (k' := 58 + 6 * (c + 1)) (n' := 4289 + 6 * (c + 1)) (by omega) (by omega) ?_
      exact hb hi h E (LwI.nx hI.1 hI.2.1 (by have := hI.2.2; omega))
theorem qL_law_0 : Dq cL_law 0 (.new 7) 3 3 := ⟨by decide +kernel, rfl⟩
theorem qL_law_3 : Dq cL_law 3 (.dup) 1 4 := ⟨by decide +kernel, rfl⟩
theorem qL_law_4 : Dq cL_law 4 (.invokespecial 9) 3 7 := ⟨by decide +kernel, rfl⟩
theorem qL_law_7 : Dq cL_law 7 (.astore_n 1) 1 8 := ⟨by decide +kernel, rfl⟩
theorem qL_law_8 : Dq cL_law 8 (.new 10) 3 11 := ⟨by decide +kernel, rfl⟩
theorem qL_law_11 : Dq cL_law 11 (.dup) 1 12 := ⟨by decide +kernel, rfl⟩
theorem qL_law_12 : Dq cL_law 12 (.invokespecial 12) 3 15 := ⟨by decide +kernel, rfl⟩
theorem qL_law_15 : Dq cL_law 15 (.astore_n 2) 1 16 := ⟨by decide +kernel, rfl⟩
theorem qL_law_16 : Dq cL_law 16 (.iconst 0) 1 17 := ⟨by decide +kernel, rfl⟩
theorem qL_law_17 : Dq cL_law 17 (.istore_n 3) 1 18 := ⟨by decide +kernel, rfl⟩
set_option maxRecDepth 100000 in
set_option maxHeartbeats 4000000 in
theorem law_start {X : Cx} {G : Glb} {L : Nat} {xsc : Nat → Int32} {Q : State → Prop} (hl : LwX X G L xsc) (hend : ∀ (i k n : Nat) (h : AHp), k ≤ 600000 → n ≤ 7302250 → V X G 4 k n Q 1141 [some (.ref 1000000), some (.ref 0), some (.ref 38), some (.int (nI i))] [] h) : V X G 4 0 0 Q 0 [some (.ref 1000000), none, none, none] [] (fun _ _ => 0, fun _ _ => none, fun _ _ => 0, fun _ => 0, fun _ => 0, 0) := by
  obtain ⟨hX, hR, -, -, -, h384⟩ := id hl
  refine v_newL hX hR ok_c11 l_L_7 inst_c11 init_c11 (Nat.le_of_ble_eq_true rfl) ⟨Nat.le_of_ble_eq_true rfl, Nat.le_of_ble_eq_true rfl⟩ qL_law_0 ?_
  refine v_dup hX rfl qL_law_3 ?_
  refine v_callCL hX hR k_L_9 (c_init (by exact (hst G)) (by exact rfl) (by exact rfl) (by exact (fun _ => rfl))) rfl (Nat.le_of_ble_eq_true rfl) rfl (Nat.le_of_ble_eq_true rfl) ⟨Nat.le_of_ble_eq_true rfl, Nat.le_of_ble_eq_true rfl⟩ qL_law_4 ?_
  rintro _ _ ⟨rfl, hc0, hn0⟩
  rename_i h1
  obtain ⟨I1, R1, J1, K1, L1, N1⟩ := h1
  have e38 : N1 = 38 := hn0
  subst e38
  refine v_astore_n hX (Nat.le_of_ble_eq_true rfl) rfl (ls' := [some _, some _, none, none]) rfl qL_law_7 ?_
  refine v_newL hX hR ok_c12 l_L_10 inst_c12 init_c12 (Nat.le_of_ble_eq_true rfl) ⟨Nat.le_of_ble_eq_true rfl, Nat.le_of_ble_eq_true rfl⟩ qL_law_8 ?_
  refine v_dup hX rfl qL_law_11 ?_
  refine v_callCL hX hR k_L_12 (m_init (by exact rfl) (by exact rfl) (by exact (fun _ => rfl))) rfl (Nat.le_of_ble_eq_true rfl) rfl (Nat.le_of_ble_eq_true rfl) ⟨Nat.le_of_ble_eq_true rfl, Nat.le_of_ble_eq_true rfl⟩ qL_law_12 ?_
  rintro _ _ ⟨rfl, hm0, hn1, hlo⟩
  rename_i h2
  refine v_astore_n hX (Nat.le_of_ble_eq_true rfl) rfl (ls' := [some _, some _, some _, none]) rfl qL_law_15 ?_
  refine v_iconst hX li_0 qL_law_16 ?_
  refine v_istore_n hX (Nat.le_of_ble_eq_true rfl) rfl (ls' := [some _, some _, some _, some _]) rfl qL_law_17 ?_
  refine v_widen (rt := none) (k' := 58 + 6 * 0) (n' := 4289 + 6 * 0) (Nat.le_of_ble_eq_true rfl) (Nat.le_of_ble_eq_true rfl) ?_
  refine law_loop hl hend _ 0 0 h2 E0S rfl rfl (Nat.zero_le _) ⟨hc0.ext ?_ (fun a ha => ?_) (fun a k _ hd => ?_), hm0, ?_⟩
  · rw [hn1]; exact Nat.le_of_ble_eq_true rfl
  · obtain ⟨g1, g2, g3, g4, g5⟩ := hlo a ha
    refine ⟨g1.trans ?_, g2.trans ?_, g4.trans ?_, g5.trans ?_⟩
    · funext k; show (if a = 38 then (0 : Int32) else I1 a k) = I1 a k; rw [if_neg (by omega)]
    · funext k; show (if a = 38 then (none : Option Nat) else R1 a k) = R1 a k; rw [if_neg (by omega)]
    · show (if a = 38 then 12 else K1 a) = K1 a; rw [if_neg (by omega)]
    · show (if a = 38 then 0 else L1 a) = L1 a; rw [if_neg (by omega)]
  · exact absurd (eye38 hc0.1 hd) (by have : a < 38 := hd.2; omega)
  · rw [hn1]; exact Nat.le_of_ble_eq_true rfl
