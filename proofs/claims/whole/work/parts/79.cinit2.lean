/-! the class is made -/
/-- ints of the class when it stands -/
def iC0 (a k : Nat) : Int32 := if (a = 1 ∨ a = 4 ∨ a = 7) ∧ k = 3 then 12 else if a = 0 ∧ (k = 10 ∨ k = 11) then -1 else if (a = 30 ∨ a = 32 ∨ a = 34 ∨ a = 36) ∧ k = 1 then -1 else 0
theorem qX11_init_0 : Dq cX11_init 0 (.aload_n 0) 1 1 := ⟨by decide +kernel, rfl⟩
theorem qX11_init_1 : Dq cX11_init 1 (.invokespecial 1) 3 4 := ⟨by decide +kernel, rfl⟩
theorem qX11_init_4 : Dq cX11_init 4 (.aload_n 0) 1 5 := ⟨by decide +kernel, rfl⟩
theorem qX11_init_5 : Dq cX11_init 5 (.new 7) 3 8 := ⟨by decide +kernel, rfl⟩
theorem qX11_init_8 : Dq cX11_init 8 (.dup) 1 9 := ⟨by decide +kernel, rfl⟩
theorem qX11_init_9 : Dq cX11_init 9 (.invokespecial 9) 3 12 := ⟨by decide +kernel, rfl⟩
theorem qX11_init_12 : Dq cX11_init 12 (.putfield 10) 3 15 := ⟨by decide +kernel, rfl⟩
theorem qX11_init_15 : Dq cX11_init 15 (.aload_n 0) 1 16 := ⟨by decide +kernel, rfl⟩
theorem qX11_init_16 : Dq cX11_init 16 (.new 7) 3 19 := ⟨by decide +kernel, rfl⟩
theorem qX11_init_19 : Dq cX11_init 19 (.dup) 1 20 := ⟨by decide +kernel, rfl⟩
theorem qX11_init_20 : Dq cX11_init 20 (.invokespecial 9) 3 23 := ⟨by decide +kernel, rfl⟩
theorem qX11_init_23 : Dq cX11_init 23 (.putfield 16) 3 26 := ⟨by decide +kernel, rfl⟩
theorem qX11_init_26 : Dq cX11_init 26 (.aload_n 0) 1 27 := ⟨by decide +kernel, rfl⟩
theorem qX11_init_27 : Dq cX11_init 27 (.new 7) 3 30 := ⟨by decide +kernel, rfl⟩
theorem qX11_init_30 : Dq cX11_init 30 (.dup) 1 31 := ⟨by decide +kernel, rfl⟩
theorem qX11_init_31 : Dq cX11_init 31 (.invokespecial 9) 3 34 := ⟨by decide +kernel, rfl⟩
theorem qX11_init_34 : Dq cX11_init 34 (.putfield 19) 3 37 := ⟨by decide +kernel, rfl⟩
theorem qX11_init_37 : Dq cX11_init 37 (.aload_n 0) 1 38 := ⟨by decide +kernel, rfl⟩
theorem qX11_init_38 : Dq cX11_init 38 (.bipush 6) 2 40 := ⟨by decide +kernel, rfl⟩
theorem qX11_init_40 : Dq cX11_init 40 (.anewarray 22) 3 43 := ⟨by decide +kernel, rfl⟩
theorem qX11_init_43 : Dq cX11_init 43 (.putfield 24) 3 46 := ⟨by decide +kernel, rfl⟩
theorem qX11_init_46 : Dq cX11_init 46 (.aload_n 0) 1 47 := ⟨by decide +kernel, rfl⟩
theorem qX11_init_47 : Dq cX11_init 47 (.new 28) 3 50 := ⟨by decide +kernel, rfl⟩
theorem qX11_init_50 : Dq cX11_init 50 (.dup) 1 51 := ⟨by decide +kernel, rfl⟩
theorem qX11_init_51 : Dq cX11_init 51 (.invokespecial 30) 3 54 := ⟨by decide +kernel, rfl⟩
theorem qX11_init_54 : Dq cX11_init 54 (.putfield 31) 3 57 := ⟨by decide +kernel, rfl⟩
theorem qX11_init_57 : Dq cX11_init 57 (.aload_n 0) 1 58 := ⟨by decide +kernel, rfl⟩
theorem qX11_init_58 : Dq cX11_init 58 (.new 35) 3 61 := ⟨by decide +kernel, rfl⟩
theorem qX11_init_61 : Dq cX11_init 61 (.dup) 1 62 := ⟨by decide +kernel, rfl⟩
theorem qX11_init_62 : Dq cX11_init 62 (.invokespecial 37) 3 65 := ⟨by decide +kernel, rfl⟩
theorem qX11_init_65 : Dq cX11_init 65 (.putfield 38) 3 68 := ⟨by decide +kernel, rfl⟩
theorem qX11_init_68 : Dq cX11_init 68 (.aload_n 0) 1 69 := ⟨by decide +kernel, rfl⟩
theorem qX11_init_69 : Dq cX11_init 69 (.new 42) 3 72 := ⟨by decide +kernel, rfl⟩
theorem qX11_init_72 : Dq cX11_init 72 (.dup) 1 73 := ⟨by decide +kernel, rfl⟩
theorem qX11_init_73 : Dq cX11_init 73 (.invokespecial 44) 3 76 := ⟨by decide +kernel, rfl⟩
theorem qX11_init_76 : Dq cX11_init 76 (.putfield 45) 3 79 := ⟨by decide +kernel, rfl⟩
theorem qX11_init_79 : Dq cX11_init 79 (.aload_n 0) 1 80 := ⟨by decide +kernel, rfl⟩
theorem qX11_init_80 : Dq cX11_init 80 (.iconst 4) 1 81 := ⟨by decide +kernel, rfl⟩
theorem qX11_init_81 : Dq cX11_init 81 (.anewarray 49) 3 84 := ⟨by decide +kernel, rfl⟩
theorem qX11_init_84 : Dq cX11_init 84 (.putfield 51) 3 87 := ⟨by decide +kernel, rfl⟩
theorem qX11_init_87 : Dq cX11_init 87 (.aload_n 0) 1 88 := ⟨by decide +kernel, rfl⟩
theorem qX11_init_88 : Dq cX11_init 88 (.iconst (-1)) 1 89 := ⟨by decide +kernel, rfl⟩
theorem qX11_init_89 : Dq cX11_init 89 (.putfield 55) 3 92 := ⟨by decide +kernel, rfl⟩
theorem qX11_init_92 : Dq cX11_init 92 (.aload_n 0) 1 93 := ⟨by decide +kernel, rfl⟩
theorem qX11_init_93 : Dq cX11_init 93 (.iconst (-1)) 1 94 := ⟨by decide +kernel, rfl⟩
theorem qX11_init_94 : Dq cX11_init 94 (.putfield 59) 3 97 := ⟨by decide +kernel, rfl⟩
theorem qX11_init_97 : Dq cX11_init 97 (.iconst 0) 1 98 := ⟨by decide +kernel, rfl⟩
theorem qX11_init_98 : Dq cX11_init 98 (.istore_n 1) 1 99 := ⟨by decide +kernel, rfl⟩
theorem qX11_init_99 : Dq cX11_init 99 (.iload_n 1) 1 100 := ⟨by decide +kernel, rfl⟩
theorem qX11_init_100 : Dq cX11_init 100 (.iconst 4) 1 101 := ⟨by decide +kernel, rfl⟩
theorem qX11_init_101 : Dq cX11_init 101 (.if_icmp .ge 22) 3 104 := ⟨by decide +kernel, rfl⟩
theorem qX11_init_104 : Dq cX11_init 104 (.aload_n 0) 1 105 := ⟨by decide +kernel, rfl⟩
theorem qX11_init_105 : Dq cX11_init 105 (.getfield 51) 3 108 := ⟨by decide +kernel, rfl⟩
theorem qX11_init_108 : Dq cX11_init 108 (.iload_n 1) 1 109 := ⟨by decide +kernel, rfl⟩
theorem qX11_init_109 : Dq cX11_init 109 (.new 49) 3 112 := ⟨by decide +kernel, rfl⟩
theorem qX11_init_112 : Dq cX11_init 112 (.dup) 1 113 := ⟨by decide +kernel, rfl⟩
theorem qX11_init_113 : Dq cX11_init 113 (.invokespecial 62) 3 116 := ⟨by decide +kernel, rfl⟩
theorem qX11_init_116 : Dq cX11_init 116 (.aastore) 1 117 := ⟨by decide +kernel, rfl⟩
theorem qX11_init_117 : Dq cX11_init 117 (.iinc 1 1) 3 120 := ⟨by decide +kernel, rfl⟩
theorem qX11_init_120 : Dq cX11_init 120 (.goto (-21)) 3 123 := ⟨by decide +kernel, rfl⟩
theorem qX11_init_123 : Dq cX11_init 123 (.iconst 0) 1 124 := ⟨by decide +kernel, rfl⟩
theorem qX11_init_124 : Dq cX11_init 124 (.istore_n 1) 1 125 := ⟨by decide +kernel, rfl⟩
theorem qX11_init_125 : Dq cX11_init 125 (.iload_n 1) 1 126 := ⟨by decide +kernel, rfl⟩
theorem qX11_init_126 : Dq cX11_init 126 (.ldc 63) 2 128 := ⟨by decide +kernel, rfl⟩
theorem qX11_init_128 : Dq cX11_init 128 (.invokevirtual 65) 3 131 := ⟨by decide +kernel, rfl⟩
theorem qX11_init_131 : Dq cX11_init 131 (.if_icmp .ge 23) 3 134 := ⟨by decide +kernel, rfl⟩
theorem qX11_init_134 : Dq cX11_init 134 (.aload_n 0) 1 135 := ⟨by decide +kernel, rfl⟩
theorem qX11_init_135 : Dq cX11_init 135 (.getfield 31) 3 138 := ⟨by decide +kernel, rfl⟩
theorem qX11_init_138 : Dq cX11_init 138 (.ldc 63) 2 140 := ⟨by decide +kernel, rfl⟩
theorem qX11_init_140 : Dq cX11_init 140 (.iload_n 1) 1 141 := ⟨by decide +kernel, rfl⟩
theorem qX11_init_141 : Dq cX11_init 141 (.invokevirtual 71) 3 144 := ⟨by decide +kernel, rfl⟩
theorem qX11_init_144 : Dq cX11_init 144 (.invokevirtual 75) 3 147 := ⟨by decide +kernel, rfl⟩
theorem qX11_init_147 : Dq cX11_init 147 (.pop) 1 148 := ⟨by decide +kernel, rfl⟩
theorem qX11_init_148 : Dq cX11_init 148 (.iinc 1 1) 3 151 := ⟨by decide +kernel, rfl⟩
theorem qX11_init_151 : Dq cX11_init 151 (.goto (-26)) 3 154 := ⟨by decide +kernel, rfl⟩
theorem qX11_init_154 : Dq cX11_init 154 (.aload_n 0) 1 155 := ⟨by decide +kernel, rfl⟩
theorem qX11_init_155 : Dq cX11_init 155 (.getfield 31) 3 158 := ⟨by decide +kernel, rfl⟩
theorem qX11_init_158 : Dq cX11_init 158 (.invokevirtual 79) 3 161 := ⟨by decide +kernel, rfl⟩
theorem qX11_init_161 : Dq cX11_init 161 (.ifCond .eq 14) 3 164 := ⟨by decide +kernel, rfl⟩
theorem qX11_init_164 : Dq cX11_init 164 (.aload_n 0) 1 165 := ⟨by decide +kernel, rfl⟩
theorem qX11_init_165 : Dq cX11_init 165 (.getfield 38) 3 168 := ⟨by decide +kernel, rfl⟩
theorem qX11_init_168 : Dq cX11_init 168 (.aload_n 0) 1 169 := ⟨by decide +kernel, rfl⟩
theorem qX11_init_169 : Dq cX11_init 169 (.getfield 31) 3 172 := ⟨by decide +kernel, rfl⟩
theorem qX11_init_172 : Dq cX11_init 172 (.invokevirtual 83) 3 175 := ⟨by decide +kernel, rfl⟩
theorem qX11_init_175 : Dq cX11_init 175 (.aload_n 0) 1 176 := ⟨by decide +kernel, rfl⟩
theorem qX11_init_176 : Dq cX11_init 176 (.getfield 31) 3 179 := ⟨by decide +kernel, rfl⟩
theorem qX11_init_179 : Dq cX11_init 179 (.invokevirtual 87) 3 182 := ⟨by decide +kernel, rfl⟩
theorem qX11_init_182 : Dq cX11_init 182 (.return_) 1 183 := ⟨by decide +kernel, rfl⟩
set_option maxRecDepth 100000 in
set_option maxHeartbeats 4000000 in
theorem c_init {G : Glb} (hG : HST G) {I : Nat → Nat → Int32} {Rr : Nat → Nat → Option Nat} {J : Nat → Nat → Int64} {K L : Nat → Nat} (hk11 : K 0 = 11) (hl0 : L 0 = 0) (hI0 : ∀ k, I 0 k = 0) : CP G m_X11_init 68 37 2571 [.ref 0] (I, Rr, J, K, L, 1) (fun r h' => r = none ∧ CV h' E0S ∧ hpN h' = 38) := by
  suffices key : ∀ P : Option Value → AHp → Prop, (∀ r h', (r = none ∧ CV h' E0S ∧ hpN h' = 38) → P r h') → CP G m_X11_init 68 37 2571 [.ref 0] (I, Rr, J, K, L, 1) P from key _ (fun _ _ z => z)
  intro P hP
  refine CP.of (by decide +kernel) (Nat.le_of_ble_eq_true rfl) fun X hX hR hnm => ?_
  show V X G 2 0 0 _ 0 [some (.ref 0), none] [] (I, Rr, J, K, L, 1)
  have T123 : ∀ (g : AHp), (ShC g) → (hpN g = 38) → (∀ a k, a < 38 → hpI g a k = iC0 a k) → V X G 2 37 2571 (QM X G P 37 2571) 123 [some (.ref 0), none] [] g := by
    intro g hs hgN hi
    refine v_iconst hX li_0 qX11_init_123 ?_
    refine v_istore_n hX (Nat.le_of_ble_eq_true rfl) rfl (ls' := [some _, some _]) rfl qX11_init_124 ?_
    have L125 : ∀ (mz : Nat) (m : Nat) (σ : Nat → Nat → Int32), 65 - m = mz → (m ≤ 65) → (∀ a k, ¬ a = 12 → ¬ (a = 11 ∧ k = 1) → σ a k = hpI g a k) → (σ 11 1 = nI m) → (∀ j, j < m → σ 12 j = by65 j) → V X G 2 37 2571 (QM X G P 37 2571) 125 [some (.ref 0), some (.int (nI m))] [] (σ, g.2) := by
      intro mz
      induction mz using Nat.strongRecOn with
      | _ mz ih =>
      intro m σ hmz hm hf h1 h0
      refine v_iload_n hX rfl qX11_init_125 ?_
      refine v_ldcS hX (hG X _ _ _ _ hX) 12 rfl qX11_init_126 ?_
      refine v_callStr (i := 12) hX (hG X _ _ _ _ hX) hR (by omega) k_X11_65 (c_strlen hG (by omega)) rfl (Nat.le_of_ble_eq_true rfl) rfl (Nat.le_of_ble_eq_true rfl) ⟨Nat.le_of_ble_eq_true rfl, Nat.le_of_ble_eq_true rfl⟩ qX11_init_128 ?_
      rintro _ _ ⟨rfl, rfl⟩
      refine v_icmp_geS hX 154 qX11_init_131 rfl (fun q131 => ?_) (fun q131 => ?_)
      · have e1 : m = 65 := Nat.le_antisymm hm (nI_le' (i := 65) (s := m) (by omega) (by omega) q131)
        subst e1
        refine v_aload_n hX rfl qX11_init_154 ?_
        refine v_getR hX g_X11_31 (hs.kd 0 rfl) (hs.rf 4 rfl) qX11_init_155 ?_
        refine v_callVq hX hR k_X11_79 (hs.kd 11 rfl) (c_readText (h := (σ, g.2)) (by' := by65) (sz := 65) (by exact hs) (by exact ⟨h1, by omega, h0⟩) (by exact hG)) rfl (Nat.le_of_ble_eq_true rfl) rfl (Nat.le_of_ble_eq_true rfl) ⟨Nat.le_of_ble_eq_true rfl, Nat.le_of_ble_eq_true rfl⟩ qX11_init_158 ?_
        rintro _ _ ⟨σ1, x1, rfl, rfl, hf1, hx1⟩
        obtain ⟨⟨⟨c1, v1⟩, ⟨c2, v2⟩, ⟨c3, v3⟩⟩, tb, t1, -, -, -⟩ := tx0
        rw [t1] at hx1
        obtain ⟨rfl, l12, l13, l11, l160, hcode, r1, r2, r3⟩ := hx1
        have hz1 : ∀ a k, a < 38 → ¬ (11 ≤ a ∧ a ≤ 16) → σ1 a k = iC0 a k := fun a k a1 a2 => (hf1 a k (by omega) (by omega)).trans ((hf a k (by omega) (by omega)).trans (hi a k a1))
        first | refine v_if_eqB hX 175 qX11_init_161 rfl (fun q161 => ?_) (fun q161 => ?_) | refine v_if_eq hX 175 qX11_init_161 rfl (fun q161 => ?_) (fun q161 => ?_)
        · exact absurd q161 (by decide)
        · skip
          refine v_aload_n hX rfl qX11_init_164 ?_
          refine v_getR hX g_X11_38 (hs.kd 0 rfl) (hs.rf 5 rfl) qX11_init_165 ?_
          refine v_aload_n hX rfl qX11_init_168 ?_
          refine v_getR hX g_X11_31 (hs.kd 0 rfl) (hs.rf 4 rfl) qX11_init_169 ?_
          refine v_callVq hX hR k_X11_83 (hs.kd 17 rfl) (c_addFrom (h := (σ1, g.2)) (by exact hs) (cnt := 0) (b := 0) (n := c1.length + c2.length + c3.length) (n1 := c1.length) (n2 := c1.length + c2.length) (by exact ((hz1 17 2 (by omega) (by omega)).trans rfl)) (by omega) (by exact ((hz1 19 0 (by omega) (by omega)).trans rfl)) (by omega) (by exact l11) (by exact l160) (by exact l12) (by exact l13)) rfl (Nat.le_of_ble_eq_true rfl) rfl (Nat.le_of_ble_eq_true rfl) ⟨Nat.le_of_ble_eq_true rfl, Nat.le_of_ble_eq_true rfl⟩ qX11_init_172 ?_
          rintro _ _ ⟨rfl, σ2, rfl, f2, a2, a18, a19, b1, b2, b3, bq⟩
          refine v_aload_n hX rfl qX11_init_175 ?_
          refine v_getR hX g_X11_31 (hs.kd 0 rfl) (hs.rf 4 rfl) qX11_init_176 ?_
          refine v_callVq hX hR k_X11_87 (hs.kd 11 rfl) (c_tclear (by exact hs)) rfl (Nat.le_of_ble_eq_true rfl) rfl (Nat.le_of_ble_eq_true rfl) ⟨Nat.le_of_ble_eq_true rfl, Nat.le_of_ble_eq_true rfl⟩ qX11_init_179 ?_
          rintro _ _ ⟨rfl, rfl⟩
          refine v_widen (rt := none) (Nat.le_of_ble_eq_true rfl) (Nat.le_of_ble_eq_true rfl) (v_return hX qX11_init_182 (hP _ _ ?_))
          have hcd : ∀ q x, (c1 ++ c2 ++ c3)[q]? = some x → σ2 18 (0 + q) = x := fun q x hq => by
            have hl2 := (List.getElem?_eq_some_iff.mp hq).1
            rw [List.length_append, List.length_append] at hl2
            rw [bq q hl2]
            have := hcode q x hq
            rwa [Nat.zero_add] at this
          have hru0 : RuOK (σ1, g.2) 0 (fun _ _ _ => 0) := ⟨(hz1 17 2 (by omega) (by omega)).trans rfl, by omega, fun _ => 0, rfl, fun i hi0 => ⟨(by rw [show i = 0 by omega]; exact (hz1 19 0 (by omega) (by omega)).trans rfl), (by show 0 ≤ 960; omega)⟩, fun i hi0 => absurd hi0 (by omega), Nat.zero_le _, fun t q ht => absurd ht (Nat.not_lt_zero t)⟩
          have hnew := hru0.new (by omega) (σ := σ2) (b := 0) (n1 := c1.length) (n2 := c2.length) (n3 := c3.length) (V3 := tvR (.inr ((c1, v1), (c2, v2), (c3, v3)))) ((hz1 19 0 (by omega) (by omega)).trans rfl) (by omega) a2 a18 a19 b1 b2 b3 l160 (fun env => r1 (σ2 18) env 0 [] (fun q x hq => hcd q x (by rw [List.append_assoc, List.getElem?_append_left (List.getElem?_eq_some_iff.mp hq).1]; exact hq)) (Nat.le_refl 31)) (fun env => r2 (σ2 18) env (0 + c1.length) [] (fun q x hq => by rw [Nat.add_assoc]; exact hcd _ x (cat_get hq)) (Nat.le_refl 31)) (fun env => r3 (σ2 18) env (0 + (c1.length + c2.length)) [] (fun q x hq => by rw [Nat.add_assoc]; exact hcd _ x (cat_get3 hq)) (Nat.le_refl 31))
          have hz : ∀ a k, a < 38 → ¬ (11 ≤ a ∧ a ≤ 19) → hpI (stI (σ2, g.2) 11 1 0) a k = iC0 a k := fun a k a1 a2 => by
            rw [hpI_st, if_neg (by omega)]
            exact (f2 a k (by omega)).trans (hz1 a k a1 (by omega))
          refine ⟨rfl, ⟨hs, ?_, fun q hq => Or.inl ((hz 22 q (by omega) (by omega)).trans rfl), ⟨fun _ => 0, (hz 0 5 (by omega) (by omega)).trans rfl, Nat.zero_le _, fun i hi0 => absurd hi0 (Nat.not_lt_zero i)⟩, ?_, Or.inl ⟨rfl, (hz 0 3 (by omega) (by omega)).trans rfl⟩, ⟨rfl, fun i hi0 => absurd hi0 (Nat.not_lt_zero i)⟩, fun i hi4 => ?_, E0_ok⟩, hgN⟩
          · show RuOK (stI (σ2, g.2) 11 1 0) 1 (fun _ => tvR (tTxt by65 65))
            rw [t1]
            obtain ⟨w1, w2, w3, w4, w5, w6, w7, w8⟩ := hnew
            exact ⟨w1, w2, w3, w4, w5, w6, w7, fun t q ht hq env => by
              have e0 : t = 0 := by omega
              subst e0
              exact w8 0 q ht hq env⟩
          · funext i k
            show (if okB i k = true then hpI (stI (σ2, g.2) 11 1 0) (1 + i) k else 0) = b0S i k
            by_cases ho : okB i k = true
            · rw [if_pos ho]
              have ho2 := okB_iff.mp ho
              have hi2 : i ≤ 2 := by rcases ho2 with ⟨e, -⟩ | ⟨e, -⟩ <;> omega
              rw [hz (1 + i) k (by omega) (by omega)]
              by_cases e : i = 0 ∧ k = 3
              · rw [e.1, e.2]; rfl
              · rw [b0_z e]
                unfold iC0
                rw [if_neg (by omega), if_neg (by omega), if_neg (by omega)]
            · rw [if_neg ho, b0_z (fun e => ho (by rw [e.1, e.2]; rfl))]
          · have h4 : i = 0 ∨ i = 1 ∨ i = 2 ∨ i = 3 := by omega
            refine ⟨(hz (30 + 2 * i) 1 (by omega) (by omega)).trans ?_, (hz (30 + 2 * i) 2 (by omega) (by omega)).trans ?_, fun k hk => absurd hk (Nat.not_lt_zero k)⟩ <;> (rcases h4 with rfl | rfl | rfl | rfl <;> rfl)
      · have hl : m < sLen.getD 12 0 := nI_lt' (i := m) (s := 65) (by omega) (by omega) q131
        have hl65 : m < 65 := hl
        refine v_aload_n hX rfl qX11_init_134 ?_
        refine v_getR hX g_X11_31 (hs.kd 0 rfl) (hs.rf 4 rfl) qX11_init_135 ?_
        refine v_ldcS hX (hG X _ _ _ _ hX) 12 rfl qX11_init_138 ?_
        refine v_iload_n hX rfl qX11_init_140 ?_
        refine v_callStr (i := 12) hX (hG X _ _ _ _ hX) hR (by omega) k_X11_71 (c_charAt hG (by omega) hl) rfl (Nat.le_of_ble_eq_true rfl) rfl (Nat.le_of_ble_eq_true rfl) ⟨Nat.le_of_ble_eq_true rfl, Nat.le_of_ble_eq_true rfl⟩ qX11_init_141 ?_
        rintro _ _ ⟨rfl, rfl⟩
        refine v_callVq hX hR k_X11_75 (hs.kd 11 rfl) (c_append (h := (σ, g.2)) (by exact hs) (z := m) (by exact h1) (by omega) _) rfl (Nat.le_of_ble_eq_true rfl) rfl (Nat.le_of_ble_eq_true rfl) ⟨Nat.le_of_ble_eq_true rfl, Nat.le_of_ble_eq_true rfl⟩ qX11_init_144 ?_
        rintro _ _ (⟨hz, rfl, rfl⟩ | ⟨hz, _⟩)
        · skip
          refine v_pop hX rfl qX11_init_147 ?_
          refine v_iinc hX rfl (by first | exact ii_nI _ | exact ii_1 _) (Nat.le_of_ble_eq_true rfl) rfl (ls' := [some _, some _]) rfl qX11_init_148 ?_
          refine v_goto hX 125 qX11_init_151 rfl ?_
          exact ih _ (by omega) (m + 1) (stI (stI (σ, g.2) 12 m ((sByt.getD 12 []).getD m 0)) 11 1 (nI (m + 1))).1 rfl (by omega) (fun a k a1 a2 => by show hpI (stI _ _ _ _) _ _ = _; rw [hpI_st, if_neg a2, hpI_st, if_neg (fun y => a1 y.1)]; exact hf a k a1 a2) rfl (fun j hj => by
            show hpI (stI _ _ _ _) _ _ = _
            rw [hpI_st, if_neg (by omega), hpI_st]
            by_cases e : j = m
            · rw [if_pos ⟨rfl, e⟩, e]; rfl
            · rw [if_neg (fun y => e y.2)]; exact h0 j (by omega))
        · omega
    exact L125 _ 0 g.1 rfl (by omega) (fun _ _ _ _ => rfl) ((hi 11 1 (by omega)).trans rfl) (fun j hj => absurd hj (by omega))
  refine v_aload_n hX rfl qX11_init_0 ?_
  refine v_objInit hX hR (Nat.le_of_ble_eq_true rfl) k_X11_1 (Nat.le_of_ble_eq_true rfl) qX11_init_1 ?_
  refine v_aload_n hX rfl qX11_init_4 ?_
  refine v_new hX hR ok_c0 l_X11_7 inst_c0 init_c0 (Nat.le_of_ble_eq_true rfl) ⟨Nat.le_of_ble_eq_true rfl, Nat.le_of_ble_eq_true rfl⟩ qX11_init_5 ?_
  refine v_dup hX rfl qX11_init_8 ?_
  refine v_callDq hX hR k_X11_9 (c_X0_init (by exact ⟨rfl, Nat.le_of_ble_eq_true rfl⟩) (by exact (Nat.le_of_ble_eq_true rfl))) rfl (Nat.le_of_ble_eq_true rfl) rfl (Nat.le_of_ble_eq_true rfl) ⟨Nat.le_of_ble_eq_true rfl, Nat.le_of_ble_eq_true rfl⟩ qX11_init_9 ?_
  rintro _ _ ⟨rfl, rfl⟩
  refine v_putR hX p_X11_10 ⟨hk11, Nat.le_of_ble_eq_true rfl⟩ (Or.inr hnm) qX11_init_12 ?_
  refine v_aload_n hX rfl qX11_init_15 ?_
  refine v_new hX hR ok_c0 l_X11_7 inst_c0 init_c0 (Nat.le_of_ble_eq_true rfl) ⟨Nat.le_of_ble_eq_true rfl, Nat.le_of_ble_eq_true rfl⟩ qX11_init_16 ?_
  refine v_dup hX rfl qX11_init_19 ?_
  refine v_callDq hX hR k_X11_9 (c_X0_init (by exact ⟨rfl, Nat.le_of_ble_eq_true rfl⟩) (by exact (Nat.le_of_ble_eq_true rfl))) rfl (Nat.le_of_ble_eq_true rfl) rfl (Nat.le_of_ble_eq_true rfl) ⟨Nat.le_of_ble_eq_true rfl, Nat.le_of_ble_eq_true rfl⟩ qX11_init_20 ?_
  rintro _ _ ⟨rfl, rfl⟩
  refine v_putR hX p_X11_16 ⟨hk11, Nat.le_of_ble_eq_true rfl⟩ (Or.inr hnm) qX11_init_23 ?_
  refine v_aload_n hX rfl qX11_init_26 ?_
  refine v_new hX hR ok_c0 l_X11_7 inst_c0 init_c0 (Nat.le_of_ble_eq_true rfl) ⟨Nat.le_of_ble_eq_true rfl, Nat.le_of_ble_eq_true rfl⟩ qX11_init_27 ?_
  refine v_dup hX rfl qX11_init_30 ?_
  refine v_callDq hX hR k_X11_9 (c_X0_init (by exact ⟨rfl, Nat.le_of_ble_eq_true rfl⟩) (by exact (Nat.le_of_ble_eq_true rfl))) rfl (Nat.le_of_ble_eq_true rfl) rfl (Nat.le_of_ble_eq_true rfl) ⟨Nat.le_of_ble_eq_true rfl, Nat.le_of_ble_eq_true rfl⟩ qX11_init_31 ?_
  rintro _ _ ⟨rfl, rfl⟩
  refine v_putR hX p_X11_19 ⟨hk11, Nat.le_of_ble_eq_true rfl⟩ (Or.inr hnm) qX11_init_34 ?_
  refine v_aload_n hX rfl qX11_init_37 ?_
  refine v_bipush hX lb_6 qX11_init_38 ?_
  refine v_anew (L := 6) (c := 102) hX hR (Or.inl ⟨rfl, rfl⟩) l_X11_22 (by decide) rfl (Nat.le_of_ble_eq_true rfl) (Nat.le_of_ble_eq_true rfl) ⟨Nat.le_of_ble_eq_true rfl, Nat.le_of_ble_eq_true rfl⟩ qX11_init_40 ?_
  refine v_putR hX p_X11_24 ⟨hk11, Nat.le_of_ble_eq_true rfl⟩ (Or.inr hnm) qX11_init_43 ?_
  refine v_aload_n hX rfl qX11_init_46 ?_
  refine v_new hX hR ok_c10 l_X11_28 inst_c10 init_c10 (Nat.le_of_ble_eq_true rfl) ⟨Nat.le_of_ble_eq_true rfl, Nat.le_of_ble_eq_true rfl⟩ qX11_init_47 ?_
  refine v_dup hX rfl qX11_init_50 ?_
  refine v_callDq hX hR k_X11_30 (c_X10_init (by exact ⟨rfl, Nat.le_of_ble_eq_true rfl⟩) (by exact (Nat.le_of_ble_eq_true rfl))) rfl (Nat.le_of_ble_eq_true rfl) rfl (Nat.le_of_ble_eq_true rfl) ⟨Nat.le_of_ble_eq_true rfl, Nat.le_of_ble_eq_true rfl⟩ qX11_init_51 ?_
  rintro _ _ ⟨rfl, rfl⟩
  refine v_putR hX p_X11_31 ⟨hk11, Nat.le_of_ble_eq_true rfl⟩ (Or.inr hnm) qX11_init_54 ?_
  refine v_aload_n hX rfl qX11_init_57 ?_
  refine v_new hX hR ok_c5 l_X11_35 inst_c5 init_c5 (Nat.le_of_ble_eq_true rfl) ⟨Nat.le_of_ble_eq_true rfl, Nat.le_of_ble_eq_true rfl⟩ qX11_init_58 ?_
  refine v_dup hX rfl qX11_init_61 ?_
  refine v_callDq hX hR k_X11_37 (c_X5_init (by exact ⟨rfl, Nat.le_of_ble_eq_true rfl⟩) (by exact (Nat.le_of_ble_eq_true rfl))) rfl (Nat.le_of_ble_eq_true rfl) rfl (Nat.le_of_ble_eq_true rfl) ⟨Nat.le_of_ble_eq_true rfl, Nat.le_of_ble_eq_true rfl⟩ qX11_init_62 ?_
  rintro _ _ ⟨rfl, rfl⟩
  refine v_putR hX p_X11_38 ⟨hk11, Nat.le_of_ble_eq_true rfl⟩ (Or.inr hnm) qX11_init_65 ?_
  refine v_aload_n hX rfl qX11_init_68 ?_
  refine v_new hX hR ok_c9 l_X11_42 inst_c9 init_c9 (Nat.le_of_ble_eq_true rfl) ⟨Nat.le_of_ble_eq_true rfl, Nat.le_of_ble_eq_true rfl⟩ qX11_init_69 ?_
  refine v_dup hX rfl qX11_init_72 ?_
  refine v_callDq hX hR k_X11_44 (c_X9_init (by exact ⟨rfl, Nat.le_of_ble_eq_true rfl⟩) (by exact (Nat.le_of_ble_eq_true rfl))) rfl (Nat.le_of_ble_eq_true rfl) rfl (Nat.le_of_ble_eq_true rfl) ⟨Nat.le_of_ble_eq_true rfl, Nat.le_of_ble_eq_true rfl⟩ qX11_init_73 ?_
  rintro _ _ ⟨rfl, rfl⟩
  refine v_putR hX p_X11_45 ⟨hk11, Nat.le_of_ble_eq_true rfl⟩ (Or.inr hnm) qX11_init_76 ?_
  refine v_aload_n hX rfl qX11_init_79 ?_
  refine v_iconst hX li_4 qX11_init_80 ?_
  refine v_anew (L := 4) (c := 103) hX hR (Or.inr ⟨rfl, rfl⟩) l_X11_49 (by decide) rfl (Nat.le_of_ble_eq_true rfl) (Nat.le_of_ble_eq_true rfl) ⟨Nat.le_of_ble_eq_true rfl, Nat.le_of_ble_eq_true rfl⟩ qX11_init_81 ?_
  refine v_putR hX p_X11_51 ⟨hk11, Nat.le_of_ble_eq_true rfl⟩ (Or.inr hnm) qX11_init_84 ?_
  refine v_aload_n hX rfl qX11_init_87 ?_
  refine v_iconst hX li_n1 qX11_init_88 ?_
  refine v_putI hX p_X11_55 ⟨hk11, Nat.le_of_ble_eq_true rfl⟩ (Or.inl rfl) qX11_init_89 ?_
  refine v_aload_n hX rfl qX11_init_92 ?_
  refine v_iconst hX li_n1 qX11_init_93 ?_
  refine v_putI hX p_X11_59 ⟨hk11, Nat.le_of_ble_eq_true rfl⟩ (Or.inl rfl) qX11_init_94 ?_
  refine v_iconst hX li_0 qX11_init_97 ?_
  refine v_istore_n hX (Nat.le_of_ble_eq_true rfl) rfl (ls' := [some _, some _]) rfl qX11_init_98 ?_
  refine v_iload_n hX rfl qX11_init_99 ?_
  refine v_iconst hX li_4 qX11_init_100 ?_
  refine v_icmp_geS hX 123 qX11_init_101 rfl (fun q101 => ?_) (fun q101 => ?_)
  · exact absurd q101 (by decide)
  · skip
    refine v_aload_n hX rfl qX11_init_104 ?_
    refine v_getR hX g_X11_51 ⟨hk11, Nat.le_of_ble_eq_true rfl⟩ rfl qX11_init_105 ?_
    refine v_iload_n hX rfl qX11_init_108 ?_
    refine v_new hX hR ok_c6 l_X11_49 inst_c6 init_c6 (Nat.le_of_ble_eq_true rfl) ⟨Nat.le_of_ble_eq_true rfl, Nat.le_of_ble_eq_true rfl⟩ qX11_init_109 ?_
    refine v_dup hX rfl qX11_init_112 ?_
    refine v_callDq hX hR k_X11_62 (c_X6_init (by exact ⟨rfl, Nat.le_of_ble_eq_true rfl⟩) (by exact (Nat.le_of_ble_eq_true rfl))) rfl (Nat.le_of_ble_eq_true rfl) rfl (Nat.le_of_ble_eq_true rfl) ⟨Nat.le_of_ble_eq_true rfl, Nat.le_of_ble_eq_true rfl⟩ qX11_init_113 ?_
    rintro _ _ ⟨rfl, rfl⟩
    refine v_aast hX (Or.inr ⟨rfl, rfl⟩) rfl (Nat.le_of_ble_eq_true rfl) (Or.inl rfl) ⟨rfl, Nat.le_of_ble_eq_true rfl⟩ ⟨rfl, Nat.le_of_ble_eq_true rfl⟩ rfl (IX.vp (ixk 0 (by decide) (by decide) rfl)) qX11_init_116 ?_
    refine v_iinc hX rfl (show _ = (1 : Int32) by decide) (Nat.le_of_ble_eq_true rfl) rfl (ls' := [some _, some _]) rfl qX11_init_117 ?_
    refine v_goto hX 99 qX11_init_120 rfl ?_
    refine v_iload_n hX rfl qX11_init_99 ?_
    refine v_iconst hX li_4 qX11_init_100 ?_
    refine v_icmp_geS hX 123 qX11_init_101 rfl (fun q101 => ?_) (fun q101 => ?_)
    · exact absurd q101 (by decide)
    · skip
      refine v_aload_n hX rfl qX11_init_104 ?_
      refine v_getR hX g_X11_51 ⟨hk11, Nat.le_of_ble_eq_true rfl⟩ rfl qX11_init_105 ?_
      refine v_iload_n hX rfl qX11_init_108 ?_
      refine v_new hX hR ok_c6 l_X11_49 inst_c6 init_c6 (Nat.le_of_ble_eq_true rfl) ⟨Nat.le_of_ble_eq_true rfl, Nat.le_of_ble_eq_true rfl⟩ qX11_init_109 ?_
      refine v_dup hX rfl qX11_init_112 ?_
      refine v_callDq hX hR k_X11_62 (c_X6_init (by exact ⟨rfl, Nat.le_of_ble_eq_true rfl⟩) (by exact (Nat.le_of_ble_eq_true rfl))) rfl (Nat.le_of_ble_eq_true rfl) rfl (Nat.le_of_ble_eq_true rfl) ⟨Nat.le_of_ble_eq_true rfl, Nat.le_of_ble_eq_true rfl⟩ qX11_init_113 ?_
      rintro _ _ ⟨rfl, rfl⟩
      refine v_aast hX (Or.inr ⟨rfl, rfl⟩) rfl (Nat.le_of_ble_eq_true rfl) (Or.inl rfl) ⟨rfl, Nat.le_of_ble_eq_true rfl⟩ ⟨rfl, Nat.le_of_ble_eq_true rfl⟩ rfl (IX.vp (ixk 1 (by decide) (by decide) rfl)) qX11_init_116 ?_
      refine v_iinc hX rfl (show _ = (2 : Int32) by decide) (Nat.le_of_ble_eq_true rfl) rfl (ls' := [some _, some _]) rfl qX11_init_117 ?_
      refine v_goto hX 99 qX11_init_120 rfl ?_
      refine v_iload_n hX rfl qX11_init_99 ?_
      refine v_iconst hX li_4 qX11_init_100 ?_
      refine v_icmp_geS hX 123 qX11_init_101 rfl (fun q101 => ?_) (fun q101 => ?_)
      · exact absurd q101 (by decide)
      · skip
        refine v_aload_n hX rfl qX11_init_104 ?_
        refine v_getR hX g_X11_51 ⟨hk11, Nat.le_of_ble_eq_true rfl⟩ rfl qX11_init_105 ?_
        refine v_iload_n hX rfl qX11_init_108 ?_
        refine v_new hX hR ok_c6 l_X11_49 inst_c6 init_c6 (Nat.le_of_ble_eq_true rfl) ⟨Nat.le_of_ble_eq_true rfl, Nat.le_of_ble_eq_true rfl⟩ qX11_init_109 ?_
        refine v_dup hX rfl qX11_init_112 ?_
        refine v_callDq hX hR k_X11_62 (c_X6_init (by exact ⟨rfl, Nat.le_of_ble_eq_true rfl⟩) (by exact (Nat.le_of_ble_eq_true rfl))) rfl (Nat.le_of_ble_eq_true rfl) rfl (Nat.le_of_ble_eq_true rfl) ⟨Nat.le_of_ble_eq_true rfl, Nat.le_of_ble_eq_true rfl⟩ qX11_init_113 ?_
        rintro _ _ ⟨rfl, rfl⟩
        refine v_aast hX (Or.inr ⟨rfl, rfl⟩) rfl (Nat.le_of_ble_eq_true rfl) (Or.inl rfl) ⟨rfl, Nat.le_of_ble_eq_true rfl⟩ ⟨rfl, Nat.le_of_ble_eq_true rfl⟩ rfl (IX.vp (ixk 2 (by decide) (by decide) rfl)) qX11_init_116 ?_
        refine v_iinc hX rfl (show _ = (3 : Int32) by decide) (Nat.le_of_ble_eq_true rfl) rfl (ls' := [some _, some _]) rfl qX11_init_117 ?_
        refine v_goto hX 99 qX11_init_120 rfl ?_
        refine v_iload_n hX rfl qX11_init_99 ?_
        refine v_iconst hX li_4 qX11_init_100 ?_
        refine v_icmp_geS hX 123 qX11_init_101 rfl (fun q101 => ?_) (fun q101 => ?_)
        · exact absurd q101 (by decide)
        · skip
          refine v_aload_n hX rfl qX11_init_104 ?_
          refine v_getR hX g_X11_51 ⟨hk11, Nat.le_of_ble_eq_true rfl⟩ rfl qX11_init_105 ?_
          refine v_iload_n hX rfl qX11_init_108 ?_
          refine v_new hX hR ok_c6 l_X11_49 inst_c6 init_c6 (Nat.le_of_ble_eq_true rfl) ⟨Nat.le_of_ble_eq_true rfl, Nat.le_of_ble_eq_true rfl⟩ qX11_init_109 ?_
          refine v_dup hX rfl qX11_init_112 ?_
          refine v_callDq hX hR k_X11_62 (c_X6_init (by exact ⟨rfl, Nat.le_of_ble_eq_true rfl⟩) (by exact (Nat.le_of_ble_eq_true rfl))) rfl (Nat.le_of_ble_eq_true rfl) rfl (Nat.le_of_ble_eq_true rfl) ⟨Nat.le_of_ble_eq_true rfl, Nat.le_of_ble_eq_true rfl⟩ qX11_init_113 ?_
          rintro _ _ ⟨rfl, rfl⟩
          refine v_aast hX (Or.inr ⟨rfl, rfl⟩) rfl (Nat.le_of_ble_eq_true rfl) (Or.inl rfl) ⟨rfl, Nat.le_of_ble_eq_true rfl⟩ ⟨rfl, Nat.le_of_ble_eq_true rfl⟩ rfl (IX.vp (ixk 3 (by decide) (by decide) rfl)) qX11_init_116 ?_
          refine v_iinc hX rfl (show _ = (4 : Int32) by decide) (Nat.le_of_ble_eq_true rfl) rfl (ls' := [some _, some _]) rfl qX11_init_117 ?_
          refine v_goto hX 99 qX11_init_120 rfl ?_
          refine v_iload_n hX rfl qX11_init_99 ?_
          refine v_iconst hX li_4 qX11_init_100 ?_
          refine v_icmp_geS hX 123 qX11_init_101 rfl (fun q101 => ?_) (fun q101 => ?_)
          · skip
            refine v_forget (ls' := [_, none]) ⟨Or.inr rfl, Or.inl rfl, trivial⟩ ?_
            refine T123 _ ⟨Nat.le_of_ble_eq_true rfl, ?_, ?_, ?_⟩ rfl (fun a k ha => ?_)
            · intro i c e
              have hl : i < 38 := (List.getElem?_eq_some_iff.mp e).1
              have h38 : i = 0 ∨ i = 1 ∨ i = 2 ∨ i = 3 ∨ i = 4 ∨ i = 5 ∨ i = 6 ∨ i = 7 ∨ i = 8 ∨ i = 9 ∨ i = 10 ∨ i = 11 ∨ i = 12 ∨ i = 13 ∨ i = 14 ∨ i = 15 ∨ i = 16 ∨ i = 17 ∨ i = 18 ∨ i = 19 ∨ i = 20 ∨ i = 21 ∨ i = 22 ∨ i = 23 ∨ i = 24 ∨ i = 25 ∨ i = 26 ∨ i = 27 ∨ i = 28 ∨ i = 29 ∨ i = 30 ∨ i = 31 ∨ i = 32 ∨ i = 33 ∨ i = 34 ∨ i = 35 ∨ i = 36 ∨ i = 37 := by omega
              rcases h38 with rfl | rfl | rfl | rfl | rfl | rfl | rfl | rfl | rfl | rfl | rfl | rfl | rfl | rfl | rfl | rfl | rfl | rfl | rfl | rfl | rfl | rfl | rfl | rfl | rfl | rfl | rfl | rfl | rfl | rfl | rfl | rfl | rfl | rfl | rfl | rfl | rfl | rfl <;> (injection e with e <;> first | rfl | exact hk11 | (subst e; first | rfl | exact hk11))
            · intro i c e
              have hl : i < 38 := (List.getElem?_eq_some_iff.mp e).1
              have h38 : i = 0 ∨ i = 1 ∨ i = 2 ∨ i = 3 ∨ i = 4 ∨ i = 5 ∨ i = 6 ∨ i = 7 ∨ i = 8 ∨ i = 9 ∨ i = 10 ∨ i = 11 ∨ i = 12 ∨ i = 13 ∨ i = 14 ∨ i = 15 ∨ i = 16 ∨ i = 17 ∨ i = 18 ∨ i = 19 ∨ i = 20 ∨ i = 21 ∨ i = 22 ∨ i = 23 ∨ i = 24 ∨ i = 25 ∨ i = 26 ∨ i = 27 ∨ i = 28 ∨ i = 29 ∨ i = 30 ∨ i = 31 ∨ i = 32 ∨ i = 33 ∨ i = 34 ∨ i = 35 ∨ i = 36 ∨ i = 37 := by omega
              rcases h38 with rfl | rfl | rfl | rfl | rfl | rfl | rfl | rfl | rfl | rfl | rfl | rfl | rfl | rfl | rfl | rfl | rfl | rfl | rfl | rfl | rfl | rfl | rfl | rfl | rfl | rfl | rfl | rfl | rfl | rfl | rfl | rfl | rfl | rfl | rfl | rfl | rfl | rfl <;> (injection e with e <;> first | rfl | exact hl0 | (subst e; first | rfl | exact hl0))
            · intro e he
              simp only [rTC, List.mem_cons, List.not_mem_nil, or_false] at he
              rcases he with rfl | rfl | rfl | rfl | rfl | rfl | rfl | rfl | rfl | rfl | rfl | rfl | rfl | rfl | rfl | rfl | rfl | rfl | rfl | rfl | rfl | rfl | rfl | rfl | rfl | rfl | rfl | rfl | rfl | rfl | rfl | rfl | rfl | rfl | rfl | rfl | rfl <;> rfl
            · have h38 : a = 0 ∨ a = 1 ∨ a = 2 ∨ a = 3 ∨ a = 4 ∨ a = 5 ∨ a = 6 ∨ a = 7 ∨ a = 8 ∨ a = 9 ∨ a = 10 ∨ a = 11 ∨ a = 12 ∨ a = 13 ∨ a = 14 ∨ a = 15 ∨ a = 16 ∨ a = 17 ∨ a = 18 ∨ a = 19 ∨ a = 20 ∨ a = 21 ∨ a = 22 ∨ a = 23 ∨ a = 24 ∨ a = 25 ∨ a = 26 ∨ a = 27 ∨ a = 28 ∨ a = 29 ∨ a = 30 ∨ a = 31 ∨ a = 32 ∨ a = 33 ∨ a = 34 ∨ a = 35 ∨ a = 36 ∨ a = 37 := by omega
              rcases h38 with rfl | h38
              · show (if (0 : Nat) = 0 ∧ k = 11 then (-1 : Int32) else if (0 : Nat) = 0 ∧ k = 10 then -1 else I 0 k) = _
                by_cases e1 : k = 11
                · subst e1; rfl
                · by_cases e2 : k = 10
                  · subst e2; rfl
                  · have h11 : ¬ ((0 : Nat) = 0 ∧ k = 11) := fun y => e1 y.2
                    have h10 : ¬ ((0 : Nat) = 0 ∧ k = 10) := fun y => e2 y.2
                    rw [if_neg h11, if_neg h10, hI0 k]
                    unfold iC0
                    rw [if_neg (by omega), if_neg (by omega), if_neg (by omega)]
              · rcases h38 with rfl | rfl | rfl | rfl | rfl | rfl | rfl | rfl | rfl | rfl | rfl | rfl | rfl | rfl | rfl | rfl | rfl | rfl | rfl | rfl | rfl | rfl | rfl | rfl | rfl | rfl | rfl | rfl | rfl | rfl | rfl | rfl | rfl | rfl | rfl | rfl | rfl
                · by_cases e : k = 3
                  · subst e; rfl
                  · show (if (1 : Nat) = 1 ∧ k = 3 then (12 : Int32) else 0) = iC0 1 k
                    unfold iC0
                    rw [if_neg (fun y => e y.2), if_neg (fun y => e y.2), if_neg (by omega), if_neg (by omega)]
                · rfl
                · rfl
                · by_cases e : k = 3
                  · subst e; rfl
                  · show (if (4 : Nat) = 4 ∧ k = 3 then (12 : Int32) else 0) = iC0 4 k
                    unfold iC0
                    rw [if_neg (fun y => e y.2), if_neg (fun y => e y.2), if_neg (by omega), if_neg (by omega)]
                · rfl
                · rfl
                · by_cases e : k = 3
                  · subst e; rfl
                  · show (if (7 : Nat) = 7 ∧ k = 3 then (12 : Int32) else 0) = iC0 7 k
                    unfold iC0
                    rw [if_neg (fun y => e y.2), if_neg (fun y => e y.2), if_neg (by omega), if_neg (by omega)]
                · rfl
                · rfl
                · rfl
                · rfl
                · rfl
                · rfl
                · rfl
                · rfl
                · rfl
                · rfl
                · rfl
                · rfl
                · rfl
                · rfl
                · rfl
                · rfl
                · rfl
                · rfl
                · rfl
                · rfl
                · rfl
                · rfl
                · by_cases e : k = 1
                  · subst e; rfl
                  · show (if (30 : Nat) = 30 ∧ k = 1 then (-1 : Int32) else 0) = iC0 30 k
                    unfold iC0
                    rw [if_neg (fun y => e y.2), if_neg (by omega), if_neg (by omega), if_neg (fun y => e y.2)]
                · rfl
                · by_cases e : k = 1
                  · subst e; rfl
                  · show (if (32 : Nat) = 32 ∧ k = 1 then (-1 : Int32) else 0) = iC0 32 k
                    unfold iC0
                    rw [if_neg (fun y => e y.2), if_neg (by omega), if_neg (by omega), if_neg (fun y => e y.2)]
                · rfl
                · by_cases e : k = 1
                  · subst e; rfl
                  · show (if (34 : Nat) = 34 ∧ k = 1 then (-1 : Int32) else 0) = iC0 34 k
                    unfold iC0
                    rw [if_neg (fun y => e y.2), if_neg (by omega), if_neg (by omega), if_neg (fun y => e y.2)]
                · rfl
                · by_cases e : k = 1
                  · subst e; rfl
                  · show (if (36 : Nat) = 36 ∧ k = 1 then (-1 : Int32) else 0) = iC0 36 k
                    unfold iC0
                    rw [if_neg (fun y => e y.2), if_neg (by omega), if_neg (by omega), if_neg (fun y => e y.2)]
                · rfl
          · exact absurd q101 (by decide)
