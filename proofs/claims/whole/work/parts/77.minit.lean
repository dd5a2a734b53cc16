/-! the reference is made -/
def b0S : Bch := up2 (fun _ _ => 0) 0 3 12
/-- the state at first -/
def E0S : Sst := (1, fun _ => tvR (tTxt by65 65), 0, fun _ => 0, fun _ => 0, b0S, none, 0, fun _ => 0, fun _ => -1, fun _ => 0, fun _ _ => 0)
theorem b0_z {i k : Nat} (h : ¬ (i = 0 ∧ k = 3)) : b0S i k = 0 := up2_ne h
theorem b0_h : b0S 0 3 = 12 := up2_at
theorem in0 (n : Nat) : inR (0 : Int32) n := ⟨Int.le_refl _, by show (0 : Int) ≤ n; omega⟩
theorem E0_ok : EOK E0S := ⟨by show 1 ≤ 6; omega, Nat.zero_le _, fun i hi => absurd hi (Nat.not_lt_zero i), ⟨fun k _ => by show inR (b0S 1 k) _; rw [b0_z (by omega)]; exact in0 _, fun k _ => by show inR (b0S 2 k) _; rw [b0_z (by omega)]; exact in0 _, by show inR (b0S 0 2) _; rw [b0_z (by omega)]; exact in0 _, by show inR (b0S 0 3) _; rw [b0_h]; exact inR_nI (j := 12) (by omega) (by omega), by show inR (b0S 0 4) _; rw [b0_z (by omega)]; exact in0 _, 0, Nat.lt_succ_self _, by show b0S 0 5 = _; rw [b0_z (by omega)]; rfl⟩, fun b hb => (by cases hb), Nat.zero_le _, fun i hi => absurd hi (Nat.not_lt_zero i), fun i _ => ⟨Nat.zero_le _, Or.inl rfl⟩⟩
theorem by72_pos : ∀ k, k < 72 → 0 ≤ by72 k := by decide +kernel
theorem rd72 : RdOK by72 72 (tvR (tTxt by65 65)) := by
  obtain ⟨a, b, h1, h2, h3, -⟩ := tx0
  rw [h1, h3]
  exact rdOK (by omega) by72_pos h2
/-- what lies below stays -/
def Lo (h h' : AHp) : Prop := ∀ a, a < 38 → hpI h' a = hpI h a ∧ hpR h' a = hpR h a ∧ hpJ h' a = hpJ h a ∧ hpK h' a = hpK h a ∧ hpL h' a = hpL h a
theorem Lo.rf (h : AHp) : Lo h h := fun _ _ => ⟨rfl, rfl, rfl, rfl, rfl⟩
theorem Lo.sI {h g : AHp} (hl : Lo h g) {a k : Nat} {v : Int32} (ha : 38 ≤ a) : Lo h (stI g a k v) := fun b hb => ⟨funext fun j => by show (if b = a ∧ j = k then v else hpI g b j) = _; rw [if_neg (by omega)]; exact congrFun (hl b hb).1 j, (hl b hb).2⟩
theorem Lo.sR {h g : AHp} (hl : Lo h g) {a k : Nat} {v : Option Nat} (ha : 38 ≤ a) : Lo h (stR g a k v) := fun b hb => ⟨(hl b hb).1, funext fun j => by show (if b = a ∧ j = k then v else hpR g b j) = _; rw [if_neg (by omega)]; exact congrFun (hl b hb).2.1 j, (hl b hb).2.2⟩
theorem Lo.sN {h g : AHp} (hl : Lo h g) {c n : Nat} (ha : 38 ≤ hpN g) : Lo h (stN g c n) := fun b hb => by
  have hne : ¬ b = hpN g := by omega
  obtain ⟨h1, h2, h3, h4, h5⟩ := hl b hb
  refine ⟨funext fun j => ?_, funext fun j => ?_, funext fun j => ?_, ?_, ?_⟩
  · show (if b = hpN g then 0 else hpI g b j) = _; rw [if_neg hne]; exact congrFun h1 j
  · show (if b = hpN g then none else hpR g b j) = _; rw [if_neg hne]; exact congrFun h2 j
  · show (if b = hpN g then 0 else hpJ g b j) = _; rw [if_neg hne]; exact congrFun h3 j
  · show (if b = hpN g then c else hpK g b) = _; rw [if_neg hne]; exact h4
  · show (if b = hpN g then n else hpL g b) = _; rw [if_neg hne]; exact h5
theorem qX12_spell_0 : Dq cX12_spell 0 (.aload_n 0) 1 1 := ⟨by decide +kernel, rfl⟩
theorem qX12_spell_1 : Dq cX12_spell 1 (.getfield 13) 3 4 := ⟨by decide +kernel, rfl⟩
theorem qX12_spell_4 : Dq cX12_spell 4 (.iload_n 1) 1 5 := ⟨by decide +kernel, rfl⟩
theorem qX12_spell_5 : Dq cX12_spell 5 (.iload_n 2) 1 6 := ⟨by decide +kernel, rfl⟩
theorem qX12_spell_6 : Dq cX12_spell 6 (.iastore) 1 7 := ⟨by decide +kernel, rfl⟩
theorem qX12_spell_7 : Dq cX12_spell 7 (.aload_n 0) 1 8 := ⟨by decide +kernel, rfl⟩
theorem qX12_spell_8 : Dq cX12_spell 8 (.getfield 13) 3 11 := ⟨by decide +kernel, rfl⟩
theorem qX12_spell_11 : Dq cX12_spell 11 (.iload_n 1) 1 12 := ⟨by decide +kernel, rfl⟩
theorem qX12_spell_12 : Dq cX12_spell 12 (.iconst 1) 1 13 := ⟨by decide +kernel, rfl⟩
theorem qX12_spell_13 : Dq cX12_spell 13 (.iadd) 1 14 := ⟨by decide +kernel, rfl⟩
theorem qX12_spell_14 : Dq cX12_spell 14 (.iload_n 3) 1 15 := ⟨by decide +kernel, rfl⟩
theorem qX12_spell_15 : Dq cX12_spell 15 (.iastore) 1 16 := ⟨by decide +kernel, rfl⟩
theorem qX12_spell_16 : Dq cX12_spell 16 (.aload_n 0) 1 17 := ⟨by decide +kernel, rfl⟩
theorem qX12_spell_17 : Dq cX12_spell 17 (.getfield 13) 3 20 := ⟨by decide +kernel, rfl⟩
theorem qX12_spell_20 : Dq cX12_spell 20 (.iload_n 1) 1 21 := ⟨by decide +kernel, rfl⟩
theorem qX12_spell_21 : Dq cX12_spell 21 (.iconst 2) 1 22 := ⟨by decide +kernel, rfl⟩
theorem qX12_spell_22 : Dq cX12_spell 22 (.iadd) 1 23 := ⟨by decide +kernel, rfl⟩
theorem qX12_spell_23 : Dq cX12_spell 23 (.iload 4) 2 25 := ⟨by decide +kernel, rfl⟩
theorem qX12_spell_25 : Dq cX12_spell 25 (.iastore) 1 26 := ⟨by decide +kernel, rfl⟩
theorem qX12_spell_26 : Dq cX12_spell 26 (.aload_n 0) 1 27 := ⟨by decide +kernel, rfl⟩
theorem qX12_spell_27 : Dq cX12_spell 27 (.getfield 13) 3 30 := ⟨by decide +kernel, rfl⟩
theorem qX12_spell_30 : Dq cX12_spell 30 (.iload_n 1) 1 31 := ⟨by decide +kernel, rfl⟩
theorem qX12_spell_31 : Dq cX12_spell 31 (.iconst 3) 1 32 := ⟨by decide +kernel, rfl⟩
theorem qX12_spell_32 : Dq cX12_spell 32 (.iadd) 1 33 := ⟨by decide +kernel, rfl⟩
theorem qX12_spell_33 : Dq cX12_spell 33 (.iload 5) 2 35 := ⟨by decide +kernel, rfl⟩
theorem qX12_spell_35 : Dq cX12_spell 35 (.iastore) 1 36 := ⟨by decide +kernel, rfl⟩
theorem qX12_spell_36 : Dq cX12_spell 36 (.aload_n 0) 1 37 := ⟨by decide +kernel, rfl⟩
theorem qX12_spell_37 : Dq cX12_spell 37 (.getfield 13) 3 40 := ⟨by decide +kernel, rfl⟩
theorem qX12_spell_40 : Dq cX12_spell 40 (.iload_n 1) 1 41 := ⟨by decide +kernel, rfl⟩
theorem qX12_spell_41 : Dq cX12_spell 41 (.iconst 4) 1 42 := ⟨by decide +kernel, rfl⟩
theorem qX12_spell_42 : Dq cX12_spell 42 (.iadd) 1 43 := ⟨by decide +kernel, rfl⟩
theorem qX12_spell_43 : Dq cX12_spell 43 (.iload 6) 2 45 := ⟨by decide +kernel, rfl⟩
theorem qX12_spell_45 : Dq cX12_spell 45 (.iastore) 1 46 := ⟨by decide +kernel, rfl⟩
theorem qX12_spell_46 : Dq cX12_spell 46 (.aload_n 0) 1 47 := ⟨by decide +kernel, rfl⟩
theorem qX12_spell_47 : Dq cX12_spell 47 (.getfield 13) 3 50 := ⟨by decide +kernel, rfl⟩
theorem qX12_spell_50 : Dq cX12_spell 50 (.iload_n 1) 1 51 := ⟨by decide +kernel, rfl⟩
theorem qX12_spell_51 : Dq cX12_spell 51 (.iconst 5) 1 52 := ⟨by decide +kernel, rfl⟩
theorem qX12_spell_52 : Dq cX12_spell 52 (.iadd) 1 53 := ⟨by decide +kernel, rfl⟩
theorem qX12_spell_53 : Dq cX12_spell 53 (.iload 7) 2 55 := ⟨by decide +kernel, rfl⟩
theorem qX12_spell_55 : Dq cX12_spell 55 (.iastore) 1 56 := ⟨by decide +kernel, rfl⟩
theorem qX12_spell_56 : Dq cX12_spell 56 (.aload_n 0) 1 57 := ⟨by decide +kernel, rfl⟩
theorem qX12_spell_57 : Dq cX12_spell 57 (.getfield 13) 3 60 := ⟨by decide +kernel, rfl⟩
theorem qX12_spell_60 : Dq cX12_spell 60 (.iload_n 1) 1 61 := ⟨by decide +kernel, rfl⟩
theorem qX12_spell_61 : Dq cX12_spell 61 (.bipush 6) 2 63 := ⟨by decide +kernel, rfl⟩
theorem qX12_spell_63 : Dq cX12_spell 63 (.iadd) 1 64 := ⟨by decide +kernel, rfl⟩
theorem qX12_spell_64 : Dq cX12_spell 64 (.iload 8) 2 66 := ⟨by decide +kernel, rfl⟩
theorem qX12_spell_66 : Dq cX12_spell 66 (.iastore) 1 67 := ⟨by decide +kernel, rfl⟩
theorem qX12_spell_67 : Dq cX12_spell 67 (.aload_n 0) 1 68 := ⟨by decide +kernel, rfl⟩
theorem qX12_spell_68 : Dq cX12_spell 68 (.getfield 13) 3 71 := ⟨by decide +kernel, rfl⟩
theorem qX12_spell_71 : Dq cX12_spell 71 (.iload_n 1) 1 72 := ⟨by decide +kernel, rfl⟩
theorem qX12_spell_72 : Dq cX12_spell 72 (.bipush 7) 2 74 := ⟨by decide +kernel, rfl⟩
theorem qX12_spell_74 : Dq cX12_spell 74 (.iadd) 1 75 := ⟨by decide +kernel, rfl⟩
theorem qX12_spell_75 : Dq cX12_spell 75 (.iload 9) 2 77 := ⟨by decide +kernel, rfl⟩
theorem qX12_spell_77 : Dq cX12_spell 77 (.iastore) 1 78 := ⟨by decide +kernel, rfl⟩
theorem qX12_spell_78 : Dq cX12_spell 78 (.return_) 1 79 := ⟨by decide +kernel, rfl⟩
set_option maxRecDepth 100000 in
set_option maxHeartbeats 4000000 in
theorem m_spell {G : Glb} {h : AHp} (hm : ShM h) {q : Nat} (hq : q ≤ 64) (w : List Int32) : CP G m_X12_spell 1 0 0 [.ref 38, .int (nI q), .int (w.getD 0 0), .int (w.getD 1 0), .int (w.getD 2 0), .int (w.getD 3 0), .int (w.getD 4 0), .int (w.getD 5 0), .int (w.getD 6 0), .int (w.getD 7 0)] h (fun r h' => r = none ∧ ∃ σ, h' = mkH h σ h.2.2.1 ∧ (∀ a k, ¬ (a = 39 ∧ q ≤ k ∧ k < q + 8) → σ a k = hpI h a k) ∧ ∀ j, j < 8 → σ 39 (q + j) = w.getD j 0) := by
  suffices key : ∀ P : Option Value → AHp → Prop, (∀ r h', (r = none ∧ ∃ σ, h' = mkH h σ h.2.2.1 ∧ (∀ a k, ¬ (a = 39 ∧ q ≤ k ∧ k < q + 8) → σ a k = hpI h a k) ∧ ∀ j, j < 8 → σ 39 (q + j) = w.getD j 0) → P r h') → CP G m_X12_spell 1 0 0 [.ref 38, .int (nI q), .int (w.getD 0 0), .int (w.getD 1 0), .int (w.getD 2 0), .int (w.getD 3 0), .int (w.getD 4 0), .int (w.getD 5 0), .int (w.getD 6 0), .int (w.getD 7 0)] h P from key _ (fun _ _ z => z)
  intro P hP
  refine CP.of (by decide +kernel) (Nat.le_of_ble_eq_true rfl) fun X hX hR hnm => ?_
  show V X G 10 0 0 _ 0 [some (.ref 38), some (.int (nI q)), some (.int (w.getD 0 0)), some (.int (w.getD 1 0)), some (.int (w.getD 2 0)), some (.int (w.getD 3 0)), some (.int (w.getD 4 0)), some (.int (w.getD 5 0)), some (.int (w.getD 6 0)), some (.int (w.getD 7 0))] [] h
  refine v_aload_n hX rfl qX12_spell_0 ?_
  refine v_getR hX g_X12_13 (hm.kd 38 rfl) (hm.rf 0 rfl) qX12_spell_1 ?_
  refine v_iload_n hX rfl qX12_spell_4 ?_
  refine v_iload_n hX rfl qX12_spell_5 ?_
  refine v_iastJ hX (hm.kd 39 rfl) (hm.ln 39 rfl) (by exact ix_n (n := q) (by omega) rfl) qX12_spell_6 ?_
  refine v_aload_n hX rfl qX12_spell_7 ?_
  refine v_getR hX g_X12_13 (hm.kd 38 rfl) (hm.rf 0 rfl) qX12_spell_8 ?_
  refine v_iload_n hX rfl qX12_spell_11 ?_
  refine v_iconst hX li_1 qX12_spell_12 ?_
  refine v_iadd hX qX12_spell_13 ?_
  refine v_eqI (nI_add q 1) ?_
  refine v_iload_n hX rfl qX12_spell_14 ?_
  refine v_iastJ hX (hm.kd 39 rfl) (hm.ln 39 rfl) (by exact ix_n (n := q + 1) (by omega) rfl) qX12_spell_15 ?_
  refine v_aload_n hX rfl qX12_spell_16 ?_
  refine v_getR hX g_X12_13 (hm.kd 38 rfl) (hm.rf 0 rfl) qX12_spell_17 ?_
  refine v_iload_n hX rfl qX12_spell_20 ?_
  refine v_iconst hX li_2 qX12_spell_21 ?_
  refine v_iadd hX qX12_spell_22 ?_
  refine v_eqI (nI_add q 2) ?_
  refine v_iload hX rfl qX12_spell_23 ?_
  refine v_iastJ hX (hm.kd 39 rfl) (hm.ln 39 rfl) (by exact ix_n (n := q + 2) (by omega) rfl) qX12_spell_25 ?_
  refine v_aload_n hX rfl qX12_spell_26 ?_
  refine v_getR hX g_X12_13 (hm.kd 38 rfl) (hm.rf 0 rfl) qX12_spell_27 ?_
  refine v_iload_n hX rfl qX12_spell_30 ?_
  refine v_iconst hX li_3 qX12_spell_31 ?_
  refine v_iadd hX qX12_spell_32 ?_
  refine v_eqI (nI_add q 3) ?_
  refine v_iload hX rfl qX12_spell_33 ?_
  refine v_iastJ hX (hm.kd 39 rfl) (hm.ln 39 rfl) (by exact ix_n (n := q + 3) (by omega) rfl) qX12_spell_35 ?_
  refine v_aload_n hX rfl qX12_spell_36 ?_
  refine v_getR hX g_X12_13 (hm.kd 38 rfl) (hm.rf 0 rfl) qX12_spell_37 ?_
  refine v_iload_n hX rfl qX12_spell_40 ?_
  refine v_iconst hX li_4 qX12_spell_41 ?_
  refine v_iadd hX qX12_spell_42 ?_
  refine v_eqI (nI_add q 4) ?_
  refine v_iload hX rfl qX12_spell_43 ?_
  refine v_iastJ hX (hm.kd 39 rfl) (hm.ln 39 rfl) (by exact ix_n (n := q + 4) (by omega) rfl) qX12_spell_45 ?_
  refine v_aload_n hX rfl qX12_spell_46 ?_
  refine v_getR hX g_X12_13 (hm.kd 38 rfl) (hm.rf 0 rfl) qX12_spell_47 ?_
  refine v_iload_n hX rfl qX12_spell_50 ?_
  refine v_iconst hX li_5 qX12_spell_51 ?_
  refine v_iadd hX qX12_spell_52 ?_
  refine v_eqI (nI_add q 5) ?_
  refine v_iload hX rfl qX12_spell_53 ?_
  refine v_iastJ hX (hm.kd 39 rfl) (hm.ln 39 rfl) (by exact ix_n (n := q + 5) (by omega) rfl) qX12_spell_55 ?_
  refine v_aload_n hX rfl qX12_spell_56 ?_
  refine v_getR hX g_X12_13 (hm.kd 38 rfl) (hm.rf 0 rfl) qX12_spell_57 ?_
  refine v_iload_n hX rfl qX12_spell_60 ?_
  refine v_bipush hX lb_6 qX12_spell_61 ?_
  refine v_iadd hX qX12_spell_63 ?_
  refine v_eqI (nI_add q 6) ?_
  refine v_iload hX rfl qX12_spell_64 ?_
  refine v_iastJ hX (hm.kd 39 rfl) (hm.ln 39 rfl) (by exact ix_n (n := q + 6) (by omega) rfl) qX12_spell_66 ?_
  refine v_aload_n hX rfl qX12_spell_67 ?_
  refine v_getR hX g_X12_13 (hm.kd 38 rfl) (hm.rf 0 rfl) qX12_spell_68 ?_
  refine v_iload_n hX rfl qX12_spell_71 ?_
  refine v_bipush hX lb_7 qX12_spell_72 ?_
  refine v_iadd hX qX12_spell_74 ?_
  refine v_eqI (nI_add q 7) ?_
  refine v_iload hX rfl qX12_spell_75 ?_
  refine v_iastJ hX (hm.kd 39 rfl) (hm.ln 39 rfl) (by exact ix_n (n := q + 7) (by omega) rfl) qX12_spell_77 ?_
  refine v_return hX qX12_spell_78 (hP _ _ ?_)
  refine ⟨rfl, (stI (stI (stI (stI (stI (stI (stI (stI h 39 q (w.getD 0 0)) 39 (q + 1) (w.getD 1 0)) 39 (q + 2) (w.getD 2 0)) 39 (q + 3) (w.getD 3 0)) 39 (q + 4) (w.getD 4 0)) 39 (q + 5) (w.getD 5 0)) 39 (q + 6) (w.getD 6 0)) 39 (q + 7) (w.getD 7 0)).1, rfl, fun a k hk => ?_, fun j hj => ?_⟩
  · show hpI (stI (stI (stI (stI (stI (stI (stI (stI h 39 q (w.getD 0 0)) 39 (q + 1) (w.getD 1 0)) 39 (q + 2) (w.getD 2 0)) 39 (q + 3) (w.getD 3 0)) 39 (q + 4) (w.getD 4 0)) 39 (q + 5) (w.getD 5 0)) 39 (q + 6) (w.getD 6 0)) 39 (q + 7) (w.getD 7 0)) _ _ = _; rw [hpI_st, if_neg (by omega), hpI_st, if_neg (by omega), hpI_st, if_neg (by omega), hpI_st, if_neg (by omega), hpI_st, if_neg (by omega), hpI_st, if_neg (by omega), hpI_st, if_neg (by omega), hpI_st, if_neg (by omega)]
  · show hpI (stI (stI (stI (stI (stI (stI (stI (stI h 39 q (w.getD 0 0)) 39 (q + 1) (w.getD 1 0)) 39 (q + 2) (w.getD 2 0)) 39 (q + 3) (w.getD 3 0)) 39 (q + 4) (w.getD 4 0)) 39 (q + 5) (w.getD 5 0)) 39 (q + 6) (w.getD 6 0)) 39 (q + 7) (w.getD 7 0)) _ _ = _
    have h8 : j = 0 ∨ j = 1 ∨ j = 2 ∨ j = 3 ∨ j = 4 ∨ j = 5 ∨ j = 6 ∨ j = 7 := by omega
    rcases h8 with rfl | rfl | rfl | rfl | rfl | rfl | rfl | rfl
    · rw [hpI_st, if_neg (by omega), hpI_st, if_neg (by omega), hpI_st, if_neg (by omega), hpI_st, if_neg (by omega), hpI_st, if_neg (by omega), hpI_st, if_neg (by omega), hpI_st, if_neg (by omega), hpI_st, if_pos ⟨rfl, rfl⟩]
    · rw [hpI_st, if_neg (by omega), hpI_st, if_neg (by omega), hpI_st, if_neg (by omega), hpI_st, if_neg (by omega), hpI_st, if_neg (by omega), hpI_st, if_neg (by omega), hpI_st, if_pos ⟨rfl, rfl⟩]
    · rw [hpI_st, if_neg (by omega), hpI_st, if_neg (by omega), hpI_st, if_neg (by omega), hpI_st, if_neg (by omega), hpI_st, if_neg (by omega), hpI_st, if_pos ⟨rfl, rfl⟩]
    · rw [hpI_st, if_neg (by omega), hpI_st, if_neg (by omega), hpI_st, if_neg (by omega), hpI_st, if_neg (by omega), hpI_st, if_pos ⟨rfl, rfl⟩]
    · rw [hpI_st, if_neg (by omega), hpI_st, if_neg (by omega), hpI_st, if_neg (by omega), hpI_st, if_pos ⟨rfl, rfl⟩]
    · rw [hpI_st, if_neg (by omega), hpI_st, if_neg (by omega), hpI_st, if_pos ⟨rfl, rfl⟩]
    · rw [hpI_st, if_neg (by omega), hpI_st, if_pos ⟨rfl, rfl⟩]
    · rw [hpI_st, if_pos ⟨rfl, rfl⟩]
theorem qX12_init_0 : Dq cX12_init 0 (.aload_n 0) 1 1 := ⟨by decide +kernel, rfl⟩
theorem qX12_init_1 : Dq cX12_init 1 (.invokespecial 7) 3 4 := ⟨by decide +kernel, rfl⟩
theorem qX12_init_4 : Dq cX12_init 4 (.aload_n 0) 1 5 := ⟨by decide +kernel, rfl⟩
theorem qX12_init_5 : Dq cX12_init 5 (.sipush 960) 3 8 := ⟨by decide +kernel, rfl⟩
theorem qX12_init_8 : Dq cX12_init 8 (.newarray .int) 2 10 := ⟨by decide +kernel, rfl⟩
theorem qX12_init_10 : Dq cX12_init 10 (.putfield 13) 3 13 := ⟨by decide +kernel, rfl⟩
theorem qX12_init_13 : Dq cX12_init 13 (.aload_n 0) 1 14 := ⟨by decide +kernel, rfl⟩
theorem qX12_init_14 : Dq cX12_init 14 (.bipush 6) 2 16 := ⟨by decide +kernel, rfl⟩
theorem qX12_init_16 : Dq cX12_init 16 (.newarray .int) 2 18 := ⟨by decide +kernel, rfl⟩
theorem qX12_init_18 : Dq cX12_init 18 (.putfield 17) 3 21 := ⟨by decide +kernel, rfl⟩
theorem qX12_init_21 : Dq cX12_init 21 (.aload_n 0) 1 22 := ⟨by decide +kernel, rfl⟩
theorem qX12_init_22 : Dq cX12_init 22 (.sipush 160) 3 25 := ⟨by decide +kernel, rfl⟩
theorem qX12_init_25 : Dq cX12_init 25 (.newarray .int) 2 27 := ⟨by decide +kernel, rfl⟩
theorem qX12_init_27 : Dq cX12_init 27 (.putfield 20) 3 30 := ⟨by decide +kernel, rfl⟩
theorem qX12_init_30 : Dq cX12_init 30 (.aload_n 0) 1 31 := ⟨by decide +kernel, rfl⟩
theorem qX12_init_31 : Dq cX12_init 31 (.bipush 48) 2 33 := ⟨by decide +kernel, rfl⟩
theorem qX12_init_33 : Dq cX12_init 33 (.newarray .int) 2 35 := ⟨by decide +kernel, rfl⟩
theorem qX12_init_35 : Dq cX12_init 35 (.putfield 23) 3 38 := ⟨by decide +kernel, rfl⟩
theorem qX12_init_38 : Dq cX12_init 38 (.aload_n 0) 1 39 := ⟨by decide +kernel, rfl⟩
theorem qX12_init_39 : Dq cX12_init 39 (.bipush 48) 2 41 := ⟨by decide +kernel, rfl⟩
theorem qX12_init_41 : Dq cX12_init 41 (.newarray .int) 2 43 := ⟨by decide +kernel, rfl⟩
theorem qX12_init_43 : Dq cX12_init 43 (.putfield 26) 3 46 := ⟨by decide +kernel, rfl⟩
theorem qX12_init_46 : Dq cX12_init 46 (.aload_n 0) 1 47 := ⟨by decide +kernel, rfl⟩
theorem qX12_init_47 : Dq cX12_init 47 (.bipush 12) 2 49 := ⟨by decide +kernel, rfl⟩
theorem qX12_init_49 : Dq cX12_init 49 (.putfield 29) 3 52 := ⟨by decide +kernel, rfl⟩
theorem qX12_init_52 : Dq cX12_init 52 (.aload_n 0) 1 53 := ⟨by decide +kernel, rfl⟩
theorem qX12_init_53 : Dq cX12_init 53 (.bipush 6) 2 55 := ⟨by decide +kernel, rfl⟩
theorem qX12_init_55 : Dq cX12_init 55 (.newarray .int) 2 57 := ⟨by decide +kernel, rfl⟩
theorem qX12_init_57 : Dq cX12_init 57 (.putfield 32) 3 60 := ⟨by decide +kernel, rfl⟩
theorem qX12_init_60 : Dq cX12_init 60 (.aload_n 0) 1 61 := ⟨by decide +kernel, rfl⟩
theorem qX12_init_61 : Dq cX12_init 61 (.bipush 6) 2 63 := ⟨by decide +kernel, rfl⟩
theorem qX12_init_63 : Dq cX12_init 63 (.newarray .int) 2 65 := ⟨by decide +kernel, rfl⟩
theorem qX12_init_65 : Dq cX12_init 65 (.putfield 35) 3 68 := ⟨by decide +kernel, rfl⟩
theorem qX12_init_68 : Dq cX12_init 68 (.aload_n 0) 1 69 := ⟨by decide +kernel, rfl⟩
theorem qX12_init_69 : Dq cX12_init 69 (.bipush 6) 2 71 := ⟨by decide +kernel, rfl⟩
theorem qX12_init_71 : Dq cX12_init 71 (.newarray .int) 2 73 := ⟨by decide +kernel, rfl⟩
theorem qX12_init_73 : Dq cX12_init 73 (.putfield 38) 3 76 := ⟨by decide +kernel, rfl⟩
theorem qX12_init_76 : Dq cX12_init 76 (.aload_n 0) 1 77 := ⟨by decide +kernel, rfl⟩
theorem qX12_init_77 : Dq cX12_init 77 (.bipush 6) 2 79 := ⟨by decide +kernel, rfl⟩
theorem qX12_init_79 : Dq cX12_init 79 (.newarray .int) 2 81 := ⟨by decide +kernel, rfl⟩
theorem qX12_init_81 : Dq cX12_init 81 (.putfield 41) 3 84 := ⟨by decide +kernel, rfl⟩
theorem qX12_init_84 : Dq cX12_init 84 (.aload_n 0) 1 85 := ⟨by decide +kernel, rfl⟩
theorem qX12_init_85 : Dq cX12_init 85 (.bipush 48) 2 87 := ⟨by decide +kernel, rfl⟩
theorem qX12_init_87 : Dq cX12_init 87 (.newarray .int) 2 89 := ⟨by decide +kernel, rfl⟩
theorem qX12_init_89 : Dq cX12_init 89 (.putfield 44) 3 92 := ⟨by decide +kernel, rfl⟩
theorem qX12_init_92 : Dq cX12_init 92 (.aload_n 0) 1 93 := ⟨by decide +kernel, rfl⟩
theorem qX12_init_93 : Dq cX12_init 93 (.bipush 48) 2 95 := ⟨by decide +kernel, rfl⟩
theorem qX12_init_95 : Dq cX12_init 95 (.newarray .int) 2 97 := ⟨by decide +kernel, rfl⟩
theorem qX12_init_97 : Dq cX12_init 97 (.putfield 47) 3 100 := ⟨by decide +kernel, rfl⟩
theorem qX12_init_100 : Dq cX12_init 100 (.aload_n 0) 1 101 := ⟨by decide +kernel, rfl⟩
theorem qX12_init_101 : Dq cX12_init 101 (.bipush 20) 2 103 := ⟨by decide +kernel, rfl⟩
theorem qX12_init_103 : Dq cX12_init 103 (.newarray .int) 2 105 := ⟨by decide +kernel, rfl⟩
theorem qX12_init_105 : Dq cX12_init 105 (.putfield 50) 3 108 := ⟨by decide +kernel, rfl⟩
theorem qX12_init_108 : Dq cX12_init 108 (.aload_n 0) 1 109 := ⟨by decide +kernel, rfl⟩
theorem qX12_init_109 : Dq cX12_init 109 (.bipush 20) 2 111 := ⟨by decide +kernel, rfl⟩
theorem qX12_init_111 : Dq cX12_init 111 (.newarray .int) 2 113 := ⟨by decide +kernel, rfl⟩
theorem qX12_init_113 : Dq cX12_init 113 (.putfield 53) 3 116 := ⟨by decide +kernel, rfl⟩
theorem qX12_init_116 : Dq cX12_init 116 (.aload_n 0) 1 117 := ⟨by decide +kernel, rfl⟩
theorem qX12_init_117 : Dq cX12_init 117 (.bipush 48) 2 119 := ⟨by decide +kernel, rfl⟩
theorem qX12_init_119 : Dq cX12_init 119 (.newarray .int) 2 121 := ⟨by decide +kernel, rfl⟩
theorem qX12_init_121 : Dq cX12_init 121 (.putfield 56) 3 124 := ⟨by decide +kernel, rfl⟩
theorem qX12_init_124 : Dq cX12_init 124 (.aload_n 0) 1 125 := ⟨by decide +kernel, rfl⟩
theorem qX12_init_125 : Dq cX12_init 125 (.bipush 48) 2 127 := ⟨by decide +kernel, rfl⟩
theorem qX12_init_127 : Dq cX12_init 127 (.newarray .int) 2 129 := ⟨by decide +kernel, rfl⟩
theorem qX12_init_129 : Dq cX12_init 129 (.putfield 59) 3 132 := ⟨by decide +kernel, rfl⟩
theorem qX12_init_132 : Dq cX12_init 132 (.aload_n 0) 1 133 := ⟨by decide +kernel, rfl⟩
theorem qX12_init_133 : Dq cX12_init 133 (.iconst (-1)) 1 134 := ⟨by decide +kernel, rfl⟩
theorem qX12_init_134 : Dq cX12_init 134 (.putfield 62) 3 137 := ⟨by decide +kernel, rfl⟩
theorem qX12_init_137 : Dq cX12_init 137 (.aload_n 0) 1 138 := ⟨by decide +kernel, rfl⟩
theorem qX12_init_138 : Dq cX12_init 138 (.iconst 4) 1 139 := ⟨by decide +kernel, rfl⟩
theorem qX12_init_139 : Dq cX12_init 139 (.newarray .boolean) 2 141 := ⟨by decide +kernel, rfl⟩
theorem qX12_init_141 : Dq cX12_init 141 (.putfield 65) 3 144 := ⟨by decide +kernel, rfl⟩
theorem qX12_init_144 : Dq cX12_init 144 (.aload_n 0) 1 145 := ⟨by decide +kernel, rfl⟩
theorem qX12_init_145 : Dq cX12_init 145 (.iconst 4) 1 146 := ⟨by decide +kernel, rfl⟩
theorem qX12_init_146 : Dq cX12_init 146 (.newarray .int) 2 148 := ⟨by decide +kernel, rfl⟩
theorem qX12_init_148 : Dq cX12_init 148 (.putfield 69) 3 151 := ⟨by decide +kernel, rfl⟩
theorem qX12_init_151 : Dq cX12_init 151 (.aload_n 0) 1 152 := ⟨by decide +kernel, rfl⟩
theorem qX12_init_152 : Dq cX12_init 152 (.iconst 4) 1 153 := ⟨by decide +kernel, rfl⟩
theorem qX12_init_153 : Dq cX12_init 153 (.newarray .int) 2 155 := ⟨by decide +kernel, rfl⟩
theorem qX12_init_155 : Dq cX12_init 155 (.putfield 72) 3 158 := ⟨by decide +kernel, rfl⟩
theorem qX12_init_158 : Dq cX12_init 158 (.aload_n 0) 1 159 := ⟨by decide +kernel, rfl⟩
theorem qX12_init_159 : Dq cX12_init 159 (.sipush 160) 3 162 := ⟨by decide +kernel, rfl⟩
theorem qX12_init_162 : Dq cX12_init 162 (.newarray .int) 2 164 := ⟨by decide +kernel, rfl⟩
theorem qX12_init_164 : Dq cX12_init 164 (.putfield 75) 3 167 := ⟨by decide +kernel, rfl⟩
theorem qX12_init_167 : Dq cX12_init 167 (.aload_n 0) 1 168 := ⟨by decide +kernel, rfl⟩
theorem qX12_init_168 : Dq cX12_init 168 (.iconst 0) 1 169 := ⟨by decide +kernel, rfl⟩
theorem qX12_init_169 : Dq cX12_init 169 (.bipush 100) 2 171 := ⟨by decide +kernel, rfl⟩
theorem qX12_init_171 : Dq cX12_init 171 (.bipush 101) 2 173 := ⟨by decide +kernel, rfl⟩
theorem qX12_init_173 : Dq cX12_init 173 (.bipush 101) 2 175 := ⟨by decide +kernel, rfl⟩
theorem qX12_init_175 : Dq cX12_init 175 (.bipush 112) 2 177 := ⟨by decide +kernel, rfl⟩
theorem qX12_init_177 : Dq cX12_init 177 (.bipush 32) 2 179 := ⟨by decide +kernel, rfl⟩
theorem qX12_init_179 : Dq cX12_init 179 (.bipush 116) 2 181 := ⟨by decide +kernel, rfl⟩
theorem qX12_init_181 : Dq cX12_init 181 (.bipush 114) 2 183 := ⟨by decide +kernel, rfl⟩
theorem qX12_init_183 : Dq cX12_init 183 (.bipush 111) 2 185 := ⟨by decide +kernel, rfl⟩
theorem qX12_init_185 : Dq cX12_init 185 (.invokevirtual 78) 3 188 := ⟨by decide +kernel, rfl⟩
theorem qX12_init_188 : Dq cX12_init 188 (.aload_n 0) 1 189 := ⟨by decide +kernel, rfl⟩
theorem qX12_init_189 : Dq cX12_init 189 (.bipush 8) 2 191 := ⟨by decide +kernel, rfl⟩
theorem qX12_init_191 : Dq cX12_init 191 (.bipush 100) 2 193 := ⟨by decide +kernel, rfl⟩
theorem qX12_init_193 : Dq cX12_init 193 (.bipush 32) 2 195 := ⟨by decide +kernel, rfl⟩
theorem qX12_init_195 : Dq cX12_init 195 (.bipush 42) 2 197 := ⟨by decide +kernel, rfl⟩
theorem qX12_init_197 : Dq cX12_init 197 (.bipush 32) 2 199 := ⟨by decide +kernel, rfl⟩
theorem qX12_init_199 : Dq cX12_init 199 (.bipush 49) 2 201 := ⟨by decide +kernel, rfl⟩
theorem qX12_init_201 : Dq cX12_init 201 (.bipush 32) 2 203 := ⟨by decide +kernel, rfl⟩
theorem qX12_init_203 : Dq cX12_init 203 (.bipush 43) 2 205 := ⟨by decide +kernel, rfl⟩
theorem qX12_init_205 : Dq cX12_init 205 (.bipush 32) 2 207 := ⟨by decide +kernel, rfl⟩
theorem qX12_init_207 : Dq cX12_init 207 (.invokevirtual 78) 3 210 := ⟨by decide +kernel, rfl⟩
theorem qX12_init_210 : Dq cX12_init 210 (.aload_n 0) 1 211 := ⟨by decide +kernel, rfl⟩
theorem qX12_init_211 : Dq cX12_init 211 (.bipush 16) 2 213 := ⟨by decide +kernel, rfl⟩
theorem qX12_init_213 : Dq cX12_init 213 (.bipush 121) 2 215 := ⟨by decide +kernel, rfl⟩
theorem qX12_init_215 : Dq cX12_init 215 (.bipush 32) 2 217 := ⟨by decide +kernel, rfl⟩
theorem qX12_init_217 : Dq cX12_init 217 (.bipush 59) 2 219 := ⟨by decide +kernel, rfl⟩
theorem qX12_init_219 : Dq cX12_init 219 (.bipush 32) 2 221 := ⟨by decide +kernel, rfl⟩
theorem qX12_init_221 : Dq cX12_init 221 (.bipush 115) 2 223 := ⟨by decide +kernel, rfl⟩
theorem qX12_init_223 : Dq cX12_init 223 (.bipush 101) 2 225 := ⟨by decide +kernel, rfl⟩
theorem qX12_init_225 : Dq cX12_init 225 (.bipush 97) 2 227 := ⟨by decide +kernel, rfl⟩
theorem qX12_init_227 : Dq cX12_init 227 (.bipush 32) 2 229 := ⟨by decide +kernel, rfl⟩
theorem qX12_init_229 : Dq cX12_init 229 (.invokevirtual 78) 3 232 := ⟨by decide +kernel, rfl⟩
theorem qX12_init_232 : Dq cX12_init 232 (.aload_n 0) 1 233 := ⟨by decide +kernel, rfl⟩
theorem qX12_init_233 : Dq cX12_init 233 (.bipush 24) 2 235 := ⟨by decide +kernel, rfl⟩
theorem qX12_init_235 : Dq cX12_init 235 (.bipush 52) 2 237 := ⟨by decide +kernel, rfl⟩
theorem qX12_init_237 : Dq cX12_init 237 (.bipush 32) 2 239 := ⟨by decide +kernel, rfl⟩
theorem qX12_init_239 : Dq cX12_init 239 (.bipush 60) 2 241 := ⟨by decide +kernel, rfl⟩
theorem qX12_init_241 : Dq cX12_init 241 (.bipush 32) 2 243 := ⟨by decide +kernel, rfl⟩
theorem qX12_init_243 : Dq cX12_init 243 (.bipush 121) 2 245 := ⟨by decide +kernel, rfl⟩
theorem qX12_init_245 : Dq cX12_init 245 (.bipush 32) 2 247 := ⟨by decide +kernel, rfl⟩
theorem qX12_init_247 : Dq cX12_init 247 (.bipush 97) 2 249 := ⟨by decide +kernel, rfl⟩
theorem qX12_init_249 : Dq cX12_init 249 (.bipush 110) 2 251 := ⟨by decide +kernel, rfl⟩
theorem qX12_init_251 : Dq cX12_init 251 (.invokevirtual 78) 3 254 := ⟨by decide +kernel, rfl⟩
theorem qX12_init_254 : Dq cX12_init 254 (.aload_n 0) 1 255 := ⟨by decide +kernel, rfl⟩
theorem qX12_init_255 : Dq cX12_init 255 (.bipush 32) 2 257 := ⟨by decide +kernel, rfl⟩
theorem qX12_init_257 : Dq cX12_init 257 (.bipush 100) 2 259 := ⟨by decide +kernel, rfl⟩
theorem qX12_init_259 : Dq cX12_init 259 (.bipush 32) 2 261 := ⟨by decide +kernel, rfl⟩
theorem qX12_init_261 : Dq cX12_init 261 (.bipush 49) 2 263 := ⟨by decide +kernel, rfl⟩
theorem qX12_init_263 : Dq cX12_init 263 (.bipush 55) 2 265 := ⟨by decide +kernel, rfl⟩
theorem qX12_init_265 : Dq cX12_init 265 (.bipush 32) 2 267 := ⟨by decide +kernel, rfl⟩
theorem qX12_init_267 : Dq cX12_init 267 (.bipush 60) 2 269 := ⟨by decide +kernel, rfl⟩
theorem qX12_init_269 : Dq cX12_init 269 (.bipush 32) 2 271 := ⟨by decide +kernel, rfl⟩
theorem qX12_init_271 : Dq cX12_init 271 (.bipush 104) 2 273 := ⟨by decide +kernel, rfl⟩
theorem qX12_init_273 : Dq cX12_init 273 (.invokevirtual 78) 3 276 := ⟨by decide +kernel, rfl⟩
theorem qX12_init_276 : Dq cX12_init 276 (.aload_n 0) 1 277 := ⟨by decide +kernel, rfl⟩
theorem qX12_init_277 : Dq cX12_init 277 (.bipush 40) 2 279 := ⟨by decide +kernel, rfl⟩
theorem qX12_init_279 : Dq cX12_init 279 (.bipush 111) 2 281 := ⟨by decide +kernel, rfl⟩
theorem qX12_init_281 : Dq cX12_init 281 (.bipush 117) 2 283 := ⟨by decide +kernel, rfl⟩
theorem qX12_init_283 : Dq cX12_init 283 (.bipush 114) 2 285 := ⟨by decide +kernel, rfl⟩
theorem qX12_init_285 : Dq cX12_init 285 (.bipush 32) 2 287 := ⟨by decide +kernel, rfl⟩
theorem qX12_init_287 : Dq cX12_init 287 (.bipush 59) 2 289 := ⟨by decide +kernel, rfl⟩
theorem qX12_init_289 : Dq cX12_init 289 (.bipush 32) 2 291 := ⟨by decide +kernel, rfl⟩
theorem qX12_init_291 : Dq cX12_init 291 (.bipush 115) 2 293 := ⟨by decide +kernel, rfl⟩
theorem qX12_init_293 : Dq cX12_init 293 (.bipush 104) 2 295 := ⟨by decide +kernel, rfl⟩
theorem qX12_init_295 : Dq cX12_init 295 (.invokevirtual 78) 3 298 := ⟨by decide +kernel, rfl⟩
theorem qX12_init_298 : Dq cX12_init 298 (.aload_n 0) 1 299 := ⟨by decide +kernel, rfl⟩
theorem qX12_init_299 : Dq cX12_init 299 (.bipush 48) 2 301 := ⟨by decide +kernel, rfl⟩
theorem qX12_init_301 : Dq cX12_init 301 (.bipush 105) 2 303 := ⟨by decide +kernel, rfl⟩
theorem qX12_init_303 : Dq cX12_init 303 (.bipush 110) 2 305 := ⟨by decide +kernel, rfl⟩
theorem qX12_init_305 : Dq cX12_init 305 (.bipush 101) 2 307 := ⟨by decide +kernel, rfl⟩
theorem qX12_init_307 : Dq cX12_init 307 (.bipush 32) 2 309 := ⟨by decide +kernel, rfl⟩
theorem qX12_init_309 : Dq cX12_init 309 (.bipush 115) 2 311 := ⟨by decide +kernel, rfl⟩
theorem qX12_init_311 : Dq cX12_init 311 (.bipush 117) 2 313 := ⟨by decide +kernel, rfl⟩
theorem qX12_init_313 : Dq cX12_init 313 (.bipush 110) 2 315 := ⟨by decide +kernel, rfl⟩
theorem qX12_init_315 : Dq cX12_init 315 (.bipush 32) 2 317 := ⟨by decide +kernel, rfl⟩
theorem qX12_init_317 : Dq cX12_init 317 (.invokevirtual 78) 3 320 := ⟨by decide +kernel, rfl⟩
theorem qX12_init_320 : Dq cX12_init 320 (.aload_n 0) 1 321 := ⟨by decide +kernel, rfl⟩
theorem qX12_init_321 : Dq cX12_init 321 (.bipush 56) 2 323 := ⟨by decide +kernel, rfl⟩
theorem qX12_init_323 : Dq cX12_init 323 (.bipush 45) 2 325 := ⟨by decide +kernel, rfl⟩
theorem qX12_init_325 : Dq cX12_init 325 (.bipush 32) 2 327 := ⟨by decide +kernel, rfl⟩
theorem qX12_init_327 : Dq cX12_init 327 (.bipush 100) 2 329 := ⟨by decide +kernel, rfl⟩
theorem qX12_init_329 : Dq cX12_init 329 (.bipush 101) 2 331 := ⟨by decide +kernel, rfl⟩
theorem qX12_init_331 : Dq cX12_init 331 (.bipush 112) 2 333 := ⟨by decide +kernel, rfl⟩
theorem qX12_init_333 : Dq cX12_init 333 (.bipush 116) 2 335 := ⟨by decide +kernel, rfl⟩
theorem qX12_init_335 : Dq cX12_init 335 (.bipush 104) 2 337 := ⟨by decide +kernel, rfl⟩
theorem qX12_init_337 : Dq cX12_init 337 (.bipush 32) 2 339 := ⟨by decide +kernel, rfl⟩
theorem qX12_init_339 : Dq cX12_init 339 (.invokevirtual 78) 3 342 := ⟨by decide +kernel, rfl⟩
theorem qX12_init_342 : Dq cX12_init 342 (.aload_n 0) 1 343 := ⟨by decide +kernel, rfl⟩
theorem qX12_init_343 : Dq cX12_init 343 (.bipush 64) 2 345 := ⟨by decide +kernel, rfl⟩
theorem qX12_init_345 : Dq cX12_init 345 (.bipush 59) 2 347 := ⟨by decide +kernel, rfl⟩
theorem qX12_init_347 : Dq cX12_init 347 (.bipush 32) 2 349 := ⟨by decide +kernel, rfl⟩
theorem qX12_init_349 : Dq cX12_init 349 (.bipush 32) 2 351 := ⟨by decide +kernel, rfl⟩
theorem qX12_init_351 : Dq cX12_init 351 (.bipush 32) 2 353 := ⟨by decide +kernel, rfl⟩
theorem qX12_init_353 : Dq cX12_init 353 (.bipush 32) 2 355 := ⟨by decide +kernel, rfl⟩
theorem qX12_init_355 : Dq cX12_init 355 (.bipush 32) 2 357 := ⟨by decide +kernel, rfl⟩
theorem qX12_init_357 : Dq cX12_init 357 (.bipush 32) 2 359 := ⟨by decide +kernel, rfl⟩
theorem qX12_init_359 : Dq cX12_init 359 (.bipush 32) 2 361 := ⟨by decide +kernel, rfl⟩
theorem qX12_init_361 : Dq cX12_init 361 (.invokevirtual 78) 3 364 := ⟨by decide +kernel, rfl⟩
theorem qX12_init_364 : Dq cX12_init 364 (.aload_n 0) 1 365 := ⟨by decide +kernel, rfl⟩
theorem qX12_init_365 : Dq cX12_init 365 (.getfield 17) 3 368 := ⟨by decide +kernel, rfl⟩
theorem qX12_init_368 : Dq cX12_init 368 (.iconst 0) 1 369 := ⟨by decide +kernel, rfl⟩
theorem qX12_init_369 : Dq cX12_init 369 (.bipush 72) 2 371 := ⟨by decide +kernel, rfl⟩
theorem qX12_init_371 : Dq cX12_init 371 (.iastore) 1 372 := ⟨by decide +kernel, rfl⟩
theorem qX12_init_372 : Dq cX12_init 372 (.aload_n 0) 1 373 := ⟨by decide +kernel, rfl⟩
theorem qX12_init_373 : Dq cX12_init 373 (.iconst 1) 1 374 := ⟨by decide +kernel, rfl⟩
theorem qX12_init_374 : Dq cX12_init 374 (.putfield 82) 3 377 := ⟨by decide +kernel, rfl⟩
theorem qX12_init_377 : Dq cX12_init 377 (.return_) 1 378 := ⟨by decide +kernel, rfl⟩
set_option maxRecDepth 100000 in
set_option maxHeartbeats 4000000 in
theorem m_init {G : Glb} {I : Nat → Nat → Int32} {Rr : Nat → Nat → Option Nat} {J : Nat → Nat → Int64} {K L : Nat → Nat} (hk12 : K 38 = 12) (hl0 : L 38 = 0) (hI0 : ∀ k, I 38 k = 0) : CP G m_X12_init 2 19 1650 [.ref 38] (I, Rr, J, K, L, 39) (fun r h' => r = none ∧ MW h' E0S ∧ hpN h' = 58 ∧ Lo (I, Rr, J, K, L, 39) h') := by
  suffices key : ∀ P : Option Value → AHp → Prop, (∀ r h', (r = none ∧ MW h' E0S ∧ hpN h' = 58 ∧ Lo (I, Rr, J, K, L, 39) h') → P r h') → CP G m_X12_init 2 19 1650 [.ref 38] (I, Rr, J, K, L, 39) P from key _ (fun _ _ z => z)
  intro P hP
  refine CP.of (by decide +kernel) (Nat.le_of_ble_eq_true rfl) fun X hX hR hnm => ?_
  show V X G 1 0 0 _ 0 [some (.ref 38)] [] (I, Rr, J, K, L, 39)
  have T167 : ∀ (g : AHp), (ShM g) → (hpN g = 58) → (∀ a k, 38 ≤ a → a < 58 → hpI g a k = if a = 38 ∧ k = 10 then 12 else if a = 38 ∧ k = 46 then -1 else 0) → (Lo (I, Rr, J, K, L, 39) g) → V X G 1 19 1650 (QM X G P 19 1650) 167 [some (.ref 38)] [] g := by
    intro g hm hgN hi hlo
    refine v_aload_n hX rfl qX12_init_167 ?_
    refine v_iconst hX li_0 qX12_init_168 ?_
    refine v_bipush hX lb_100 qX12_init_169 ?_
    refine v_bipush hX lb_101 qX12_init_171 ?_
    refine v_bipush hX lb_101 qX12_init_173 ?_
    refine v_bipush hX lb_112 qX12_init_175 ?_
    refine v_bipush hX lb_32 qX12_init_177 ?_
    refine v_bipush hX lb_116 qX12_init_179 ?_
    refine v_bipush hX lb_114 qX12_init_181 ?_
    refine v_bipush hX lb_111 qX12_init_183 ?_
    refine v_callVq hX hR k_X12_78 (hm.kd 38 rfl) (m_spell (h := g) (by exact hm) (q := 0) (by omega) (by exact [100, 101, 101, 112, 32, 116, 114, 111])) rfl (Nat.le_of_ble_eq_true rfl) rfl (Nat.le_of_ble_eq_true rfl) ⟨Nat.le_of_ble_eq_true rfl, Nat.le_of_ble_eq_true rfl⟩ qX12_init_185 ?_
    rintro _ _ ⟨rfl, σ0, rfl, u0, v0⟩
    have f0 : ∀ a k, ¬ a = 39 → σ0 a k = hpI g a k := fun a k ha => (u0 a k (by omega))
    have hb0 : ∀ k, k < 8 → σ0 39 k = by72 k := fun k hk => by
      by_cases z : k < 0
      · omega
      · have y := v0 (k - 0) (by omega)
        rw [show 0 + (k - 0) = k by omega] at y
        rw [y]
        have d8 : ∀ j, j < 8 → ([100, 101, 101, 112, 32, 116, 114, 111] : List Int32).getD j 0 = by72 (0 + j) := by decide
        rw [d8 (k - 0) (by omega), show 0 + (k - 0) = k by omega]
    refine v_aload_n hX rfl qX12_init_188 ?_
    refine v_bipush hX lb_8 qX12_init_189 ?_
    refine v_bipush hX lb_100 qX12_init_191 ?_
    refine v_bipush hX lb_32 qX12_init_193 ?_
    refine v_bipush hX lb_42 qX12_init_195 ?_
    refine v_bipush hX lb_32 qX12_init_197 ?_
    refine v_bipush hX lb_49 qX12_init_199 ?_
    refine v_bipush hX lb_32 qX12_init_201 ?_
    refine v_bipush hX lb_43 qX12_init_203 ?_
    refine v_bipush hX lb_32 qX12_init_205 ?_
    refine v_callVq hX hR k_X12_78 (hm.kd 38 rfl) (m_spell (h := (mkH g σ0 g.2.2.1)) (by exact hm) (q := 8) (by omega) (by exact [100, 32, 42, 32, 49, 32, 43, 32])) rfl (Nat.le_of_ble_eq_true rfl) rfl (Nat.le_of_ble_eq_true rfl) ⟨Nat.le_of_ble_eq_true rfl, Nat.le_of_ble_eq_true rfl⟩ qX12_init_207 ?_
    rintro _ _ ⟨rfl, σ1, rfl, u1, v1⟩
    have f1 : ∀ a k, ¬ a = 39 → σ1 a k = hpI g a k := fun a k ha => (u1 a k (by omega)).trans (f0 a k ha)
    have hb1 : ∀ k, k < 16 → σ1 39 k = by72 k := fun k hk => by
      by_cases z : k < 8
      · exact (u1 39 k (by omega)).trans (hb0 k z)
      · have y := v1 (k - 8) (by omega)
        rw [show 8 + (k - 8) = k by omega] at y
        rw [y]
        have d8 : ∀ j, j < 8 → ([100, 32, 42, 32, 49, 32, 43, 32] : List Int32).getD j 0 = by72 (8 + j) := by decide
        rw [d8 (k - 8) (by omega), show 8 + (k - 8) = k by omega]
    refine v_aload_n hX rfl qX12_init_210 ?_
    refine v_bipush hX lb_16 qX12_init_211 ?_
    refine v_bipush hX lb_121 qX12_init_213 ?_
    refine v_bipush hX lb_32 qX12_init_215 ?_
    refine v_bipush hX lb_59 qX12_init_217 ?_
    refine v_bipush hX lb_32 qX12_init_219 ?_
    refine v_bipush hX lb_115 qX12_init_221 ?_
    refine v_bipush hX lb_101 qX12_init_223 ?_
    refine v_bipush hX lb_97 qX12_init_225 ?_
    refine v_bipush hX lb_32 qX12_init_227 ?_
    refine v_callVq hX hR k_X12_78 (hm.kd 38 rfl) (m_spell (h := (mkH g σ1 g.2.2.1)) (by exact hm) (q := 16) (by omega) (by exact [121, 32, 59, 32, 115, 101, 97, 32])) rfl (Nat.le_of_ble_eq_true rfl) rfl (Nat.le_of_ble_eq_true rfl) ⟨Nat.le_of_ble_eq_true rfl, Nat.le_of_ble_eq_true rfl⟩ qX12_init_229 ?_
    rintro _ _ ⟨rfl, σ2, rfl, u2, v2⟩
    have f2 : ∀ a k, ¬ a = 39 → σ2 a k = hpI g a k := fun a k ha => (u2 a k (by omega)).trans (f1 a k ha)
    have hb2 : ∀ k, k < 24 → σ2 39 k = by72 k := fun k hk => by
      by_cases z : k < 16
      · exact (u2 39 k (by omega)).trans (hb1 k z)
      · have y := v2 (k - 16) (by omega)
        rw [show 16 + (k - 16) = k by omega] at y
        rw [y]
        have d8 : ∀ j, j < 8 → ([121, 32, 59, 32, 115, 101, 97, 32] : List Int32).getD j 0 = by72 (16 + j) := by decide
        rw [d8 (k - 16) (by omega), show 16 + (k - 16) = k by omega]
    refine v_aload_n hX rfl qX12_init_232 ?_
    refine v_bipush hX lb_24 qX12_init_233 ?_
    refine v_bipush hX lb_52 qX12_init_235 ?_
    refine v_bipush hX lb_32 qX12_init_237 ?_
    refine v_bipush hX lb_60 qX12_init_239 ?_
    refine v_bipush hX lb_32 qX12_init_241 ?_
    refine v_bipush hX lb_121 qX12_init_243 ?_
    refine v_bipush hX lb_32 qX12_init_245 ?_
    refine v_bipush hX lb_97 qX12_init_247 ?_
    refine v_bipush hX lb_110 qX12_init_249 ?_
    refine v_callVq hX hR k_X12_78 (hm.kd 38 rfl) (m_spell (h := (mkH g σ2 g.2.2.1)) (by exact hm) (q := 24) (by omega) (by exact [52, 32, 60, 32, 121, 32, 97, 110])) rfl (Nat.le_of_ble_eq_true rfl) rfl (Nat.le_of_ble_eq_true rfl) ⟨Nat.le_of_ble_eq_true rfl, Nat.le_of_ble_eq_true rfl⟩ qX12_init_251 ?_
    rintro _ _ ⟨rfl, σ3, rfl, u3, v3⟩
    have f3 : ∀ a k, ¬ a = 39 → σ3 a k = hpI g a k := fun a k ha => (u3 a k (by omega)).trans (f2 a k ha)
    have hb3 : ∀ k, k < 32 → σ3 39 k = by72 k := fun k hk => by
      by_cases z : k < 24
      · exact (u3 39 k (by omega)).trans (hb2 k z)
      · have y := v3 (k - 24) (by omega)
        rw [show 24 + (k - 24) = k by omega] at y
        rw [y]
        have d8 : ∀ j, j < 8 → ([52, 32, 60, 32, 121, 32, 97, 110] : List Int32).getD j 0 = by72 (24 + j) := by decide
        rw [d8 (k - 24) (by omega), show 24 + (k - 24) = k by omega]
    refine v_aload_n hX rfl qX12_init_254 ?_
    refine v_bipush hX lb_32 qX12_init_255 ?_
    refine v_bipush hX lb_100 qX12_init_257 ?_
    refine v_bipush hX lb_32 qX12_init_259 ?_
    refine v_bipush hX lb_49 qX12_init_261 ?_
    refine v_bipush hX lb_55 qX12_init_263 ?_
    refine v_bipush hX lb_32 qX12_init_265 ?_
    refine v_bipush hX lb_60 qX12_init_267 ?_
    refine v_bipush hX lb_32 qX12_init_269 ?_
    refine v_bipush hX lb_104 qX12_init_271 ?_
    refine v_callVq hX hR k_X12_78 (hm.kd 38 rfl) (m_spell (h := (mkH g σ3 g.2.2.1)) (by exact hm) (q := 32) (by omega) (by exact [100, 32, 49, 55, 32, 60, 32, 104])) rfl (Nat.le_of_ble_eq_true rfl) rfl (Nat.le_of_ble_eq_true rfl) ⟨Nat.le_of_ble_eq_true rfl, Nat.le_of_ble_eq_true rfl⟩ qX12_init_273 ?_
    rintro _ _ ⟨rfl, σ4, rfl, u4, v4⟩
    have f4 : ∀ a k, ¬ a = 39 → σ4 a k = hpI g a k := fun a k ha => (u4 a k (by omega)).trans (f3 a k ha)
    have hb4 : ∀ k, k < 40 → σ4 39 k = by72 k := fun k hk => by
      by_cases z : k < 32
      · exact (u4 39 k (by omega)).trans (hb3 k z)
      · have y := v4 (k - 32) (by omega)
        rw [show 32 + (k - 32) = k by omega] at y
        rw [y]
        have d8 : ∀ j, j < 8 → ([100, 32, 49, 55, 32, 60, 32, 104] : List Int32).getD j 0 = by72 (32 + j) := by decide
        rw [d8 (k - 32) (by omega), show 32 + (k - 32) = k by omega]
    refine v_aload_n hX rfl qX12_init_276 ?_
    refine v_bipush hX lb_40 qX12_init_277 ?_
    refine v_bipush hX lb_111 qX12_init_279 ?_
    refine v_bipush hX lb_117 qX12_init_281 ?_
    refine v_bipush hX lb_114 qX12_init_283 ?_
    refine v_bipush hX lb_32 qX12_init_285 ?_
    refine v_bipush hX lb_59 qX12_init_287 ?_
    refine v_bipush hX lb_32 qX12_init_289 ?_
    refine v_bipush hX lb_115 qX12_init_291 ?_
    refine v_bipush hX lb_104 qX12_init_293 ?_
    refine v_callVq hX hR k_X12_78 (hm.kd 38 rfl) (m_spell (h := (mkH g σ4 g.2.2.1)) (by exact hm) (q := 40) (by omega) (by exact [111, 117, 114, 32, 59, 32, 115, 104])) rfl (Nat.le_of_ble_eq_true rfl) rfl (Nat.le_of_ble_eq_true rfl) ⟨Nat.le_of_ble_eq_true rfl, Nat.le_of_ble_eq_true rfl⟩ qX12_init_295 ?_
    rintro _ _ ⟨rfl, σ5, rfl, u5, v5⟩
    have f5 : ∀ a k, ¬ a = 39 → σ5 a k = hpI g a k := fun a k ha => (u5 a k (by omega)).trans (f4 a k ha)
    have hb5 : ∀ k, k < 48 → σ5 39 k = by72 k := fun k hk => by
      by_cases z : k < 40
      · exact (u5 39 k (by omega)).trans (hb4 k z)
      · have y := v5 (k - 40) (by omega)
        rw [show 40 + (k - 40) = k by omega] at y
        rw [y]
        have d8 : ∀ j, j < 8 → ([111, 117, 114, 32, 59, 32, 115, 104] : List Int32).getD j 0 = by72 (40 + j) := by decide
        rw [d8 (k - 40) (by omega), show 40 + (k - 40) = k by omega]
    refine v_aload_n hX rfl qX12_init_298 ?_
    refine v_bipush hX lb_48 qX12_init_299 ?_
    refine v_bipush hX lb_105 qX12_init_301 ?_
    refine v_bipush hX lb_110 qX12_init_303 ?_
    refine v_bipush hX lb_101 qX12_init_305 ?_
    refine v_bipush hX lb_32 qX12_init_307 ?_
    refine v_bipush hX lb_115 qX12_init_309 ?_
    refine v_bipush hX lb_117 qX12_init_311 ?_
    refine v_bipush hX lb_110 qX12_init_313 ?_
    refine v_bipush hX lb_32 qX12_init_315 ?_
    refine v_callVq hX hR k_X12_78 (hm.kd 38 rfl) (m_spell (h := (mkH g σ5 g.2.2.1)) (by exact hm) (q := 48) (by omega) (by exact [105, 110, 101, 32, 115, 117, 110, 32])) rfl (Nat.le_of_ble_eq_true rfl) rfl (Nat.le_of_ble_eq_true rfl) ⟨Nat.le_of_ble_eq_true rfl, Nat.le_of_ble_eq_true rfl⟩ qX12_init_317 ?_
    rintro _ _ ⟨rfl, σ6, rfl, u6, v6⟩
    have f6 : ∀ a k, ¬ a = 39 → σ6 a k = hpI g a k := fun a k ha => (u6 a k (by omega)).trans (f5 a k ha)
    have hb6 : ∀ k, k < 56 → σ6 39 k = by72 k := fun k hk => by
      by_cases z : k < 48
      · exact (u6 39 k (by omega)).trans (hb5 k z)
      · have y := v6 (k - 48) (by omega)
        rw [show 48 + (k - 48) = k by omega] at y
        rw [y]
        have d8 : ∀ j, j < 8 → ([105, 110, 101, 32, 115, 117, 110, 32] : List Int32).getD j 0 = by72 (48 + j) := by decide
        rw [d8 (k - 48) (by omega), show 48 + (k - 48) = k by omega]
    refine v_aload_n hX rfl qX12_init_320 ?_
    refine v_bipush hX lb_56 qX12_init_321 ?_
    refine v_bipush hX lb_45 qX12_init_323 ?_
    refine v_bipush hX lb_32 qX12_init_325 ?_
    refine v_bipush hX lb_100 qX12_init_327 ?_
    refine v_bipush hX lb_101 qX12_init_329 ?_
    refine v_bipush hX lb_112 qX12_init_331 ?_
    refine v_bipush hX lb_116 qX12_init_333 ?_
    refine v_bipush hX lb_104 qX12_init_335 ?_
    refine v_bipush hX lb_32 qX12_init_337 ?_
    refine v_callVq hX hR k_X12_78 (hm.kd 38 rfl) (m_spell (h := (mkH g σ6 g.2.2.1)) (by exact hm) (q := 56) (by omega) (by exact [45, 32, 100, 101, 112, 116, 104, 32])) rfl (Nat.le_of_ble_eq_true rfl) rfl (Nat.le_of_ble_eq_true rfl) ⟨Nat.le_of_ble_eq_true rfl, Nat.le_of_ble_eq_true rfl⟩ qX12_init_339 ?_
    rintro _ _ ⟨rfl, σ7, rfl, u7, v7⟩
    have f7 : ∀ a k, ¬ a = 39 → σ7 a k = hpI g a k := fun a k ha => (u7 a k (by omega)).trans (f6 a k ha)
    have hb7 : ∀ k, k < 64 → σ7 39 k = by72 k := fun k hk => by
      by_cases z : k < 56
      · exact (u7 39 k (by omega)).trans (hb6 k z)
      · have y := v7 (k - 56) (by omega)
        rw [show 56 + (k - 56) = k by omega] at y
        rw [y]
        have d8 : ∀ j, j < 8 → ([45, 32, 100, 101, 112, 116, 104, 32] : List Int32).getD j 0 = by72 (56 + j) := by decide
        rw [d8 (k - 56) (by omega), show 56 + (k - 56) = k by omega]
    refine v_aload_n hX rfl qX12_init_342 ?_
    refine v_bipush hX lb_64 qX12_init_343 ?_
    refine v_bipush hX lb_59 qX12_init_345 ?_
    refine v_bipush hX lb_32 qX12_init_347 ?_
    refine v_bipush hX lb_32 qX12_init_349 ?_
    refine v_bipush hX lb_32 qX12_init_351 ?_
    refine v_bipush hX lb_32 qX12_init_353 ?_
    refine v_bipush hX lb_32 qX12_init_355 ?_
    refine v_bipush hX lb_32 qX12_init_357 ?_
    refine v_bipush hX lb_32 qX12_init_359 ?_
    refine v_callVq hX hR k_X12_78 (hm.kd 38 rfl) (m_spell (h := (mkH g σ7 g.2.2.1)) (by exact hm) (q := 64) (by omega) (by exact [59, 32, 32, 32, 32, 32, 32, 32])) rfl (Nat.le_of_ble_eq_true rfl) rfl (Nat.le_of_ble_eq_true rfl) ⟨Nat.le_of_ble_eq_true rfl, Nat.le_of_ble_eq_true rfl⟩ qX12_init_361 ?_
    rintro _ _ ⟨rfl, σ8, rfl, u8, v8⟩
    have f8 : ∀ a k, ¬ a = 39 → σ8 a k = hpI g a k := fun a k ha => (u8 a k (by omega)).trans (f7 a k ha)
    have hb8 : ∀ k, k < 72 → σ8 39 k = by72 k := fun k hk => by
      by_cases z : k < 64
      · exact (u8 39 k (by omega)).trans (hb7 k z)
      · have y := v8 (k - 64) (by omega)
        rw [show 64 + (k - 64) = k by omega] at y
        rw [y]
        have d8 : ∀ j, j < 8 → ([59, 32, 32, 32, 32, 32, 32, 32] : List Int32).getD j 0 = by72 (64 + j) := by decide
        rw [d8 (k - 64) (by omega), show 64 + (k - 64) = k by omega]
    refine v_aload_n hX rfl qX12_init_364 ?_
    refine v_getR hX g_X12_17 (hm.kd 38 rfl) (hm.rf 1 rfl) qX12_init_365 ?_
    refine v_iconst hX li_0 qX12_init_368 ?_
    refine v_bipush hX lb_72 qX12_init_369 ?_
    refine v_iastJ hX (hm.kd 40 rfl) (hm.ln 40 rfl) (by exact ix_n (n := 0) (by omega) rfl) qX12_init_371 ?_
    refine v_aload_n hX rfl qX12_init_372 ?_
    refine v_iconst hX li_1 qX12_init_373 ?_
    refine v_putI hX p_X12_82 (hm.kd 38 rfl) (Or.inl rfl) qX12_init_374 ?_
    refine v_widen (rt := none) (Nat.le_of_ble_eq_true rfl) (Nat.le_of_ble_eq_true rfl) (v_return hX qX12_init_377 (hP _ _ ?_))
    have hlo2 : Lo (I, Rr, J, K, L, 39) (stI (stI (mkH g σ8 g.2.2.1) 40 0 72) 38 3 1) := fun a ha => ⟨funext fun k => by rw [hpI_st, if_neg (by omega), hpI_st, if_neg (by omega)]; exact (f8 a k (by omega)).trans (congrFun (hlo a ha).1 k), (hlo a ha).2.1, (hlo a ha).2.2.1, (hlo a ha).2.2.2.1, (hlo a ha).2.2.2.2⟩
    have hgN : hpN (stI (stI (mkH g σ8 g.2.2.1) 40 0 72) 38 3 1) = 58 := hgN
    refine ⟨rfl, ⟨hm, ⟨rfl, fun t ht => ?_⟩, ⟨(show hpI (stI (stI (mkH g σ8 g.2.2.1) 40 0 72) 38 3 1) 38 14 = _ by rw [hpI_st, if_neg (by omega), hpI_st, if_neg (by omega)]; exact (f8 38 14 (by omega)).trans ((hi 38 14 (by omega) (by omega)).trans (by first | rfl | rw [if_neg (by omega), if_neg (by omega)]))), fun i hi2 => absurd hi2 (Nat.not_lt_zero i)⟩, bm_is (h := (stI (stI (mkH g σ8 g.2.2.1) 40 0 72) 38 3 1)) (fun k hk => ?_) (fun k hk => ?_) ?_ ?_ ?_ ?_ (fun i k ho => b0_z (fun y => ho (Or.inr ⟨y.1, by omega, by omega⟩))), Or.inl ⟨rfl, (show hpI (stI (stI (mkH g σ8 g.2.2.1) 40 0 72) 38 3 1) 38 46 = _ by rw [hpI_st, if_neg (by omega), hpI_st, if_neg (by omega)]; exact (f8 38 46 (by omega)).trans ((hi 38 46 (by omega) (by omega)).trans (by first | rfl | rw [if_neg (by omega), if_neg (by omega)])))⟩, ⟨(show hpI (stI (stI (mkH g σ8 g.2.2.1) 40 0 72) 38 3 1) 38 6 = _ by rw [hpI_st, if_neg (by omega), hpI_st, if_neg (by omega)]; exact (f8 38 6 (by omega)).trans ((hi 38 6 (by omega) (by omega)).trans (by first | rfl | rw [if_neg (by omega), if_neg (by omega)]))), fun i hi2 => absurd hi2 (Nat.not_lt_zero i)⟩, fun i hi4 => ⟨?_, fun y => absurd rfl y⟩, E0_ok⟩, hgN, hlo2⟩
    · have ht : t < 1 := ht
      have e : t = 0 := by omega
      subst e
      exact ⟨by72, 72, by omega, fun i hi2 => (by
        show hpI (stI (stI (mkH g σ8 g.2.2.1) 40 0 72) 38 3 1) 39 (160 * 0 + i) = _
        rw [show 160 * 0 + i = i by omega, hpI_st, if_neg (by omega), hpI_st, if_neg (by omega)]
        exact hb8 i hi2), rfl, rd72⟩
    · show hpI (stI (stI (mkH g σ8 g.2.2.1) 40 0 72) 38 3 1) 42 k = b0S 1 k
      rw [b0_z (by omega)]; exact (show hpI (stI (stI (mkH g σ8 g.2.2.1) 40 0 72) 38 3 1) 42 k = _ by rw [hpI_st, if_neg (by omega), hpI_st, if_neg (by omega)]; exact (f8 42 k (by omega)).trans ((hi 42 k (by omega) (by omega)).trans (by first | rfl | rw [if_neg (by omega), if_neg (by omega)])))
    · show hpI (stI (stI (mkH g σ8 g.2.2.1) 40 0 72) 38 3 1) 43 k = b0S 2 k
      rw [b0_z (by omega)]; exact (show hpI (stI (stI (mkH g σ8 g.2.2.1) 40 0 72) 38 3 1) 43 k = _ by rw [hpI_st, if_neg (by omega), hpI_st, if_neg (by omega)]; exact (f8 43 k (by omega)).trans ((hi 43 k (by omega) (by omega)).trans (by first | rfl | rw [if_neg (by omega), if_neg (by omega)])))
    · show hpI (stI (stI (mkH g σ8 g.2.2.1) 40 0 72) 38 3 1) 38 9 = b0S 0 2
      rw [b0_z (by omega)]; exact (show hpI (stI (stI (mkH g σ8 g.2.2.1) 40 0 72) 38 3 1) 38 9 = _ by rw [hpI_st, if_neg (by omega), hpI_st, if_neg (by omega)]; exact (f8 38 9 (by omega)).trans ((hi 38 9 (by omega) (by omega)).trans (by first | rfl | rw [if_neg (by omega), if_neg (by omega)])))
    · show hpI (stI (stI (mkH g σ8 g.2.2.1) 40 0 72) 38 3 1) 38 10 = b0S 0 3
      rw [b0_h]; exact (show hpI (stI (stI (mkH g σ8 g.2.2.1) 40 0 72) 38 3 1) 38 10 = _ by rw [hpI_st, if_neg (by omega), hpI_st, if_neg (by omega)]; exact (f8 38 10 (by omega)).trans ((hi 38 10 (by omega) (by omega)).trans (by first | rfl | rw [if_neg (by omega), if_neg (by omega)])))
    · show hpI (stI (stI (mkH g σ8 g.2.2.1) 40 0 72) 38 3 1) 38 11 = b0S 0 4
      rw [b0_z (by omega)]; exact (show hpI (stI (stI (mkH g σ8 g.2.2.1) 40 0 72) 38 3 1) 38 11 = _ by rw [hpI_st, if_neg (by omega), hpI_st, if_neg (by omega)]; exact (f8 38 11 (by omega)).trans ((hi 38 11 (by omega) (by omega)).trans (by first | rfl | rw [if_neg (by omega), if_neg (by omega)])))
    · show hpI (stI (stI (mkH g σ8 g.2.2.1) 40 0 72) 38 3 1) 38 4 = b0S 0 5
      rw [b0_z (by omega)]; exact (show hpI (stI (stI (mkH g σ8 g.2.2.1) 40 0 72) 38 3 1) 38 4 = _ by rw [hpI_st, if_neg (by omega), hpI_st, if_neg (by omega)]; exact (f8 38 4 (by omega)).trans ((hi 38 4 (by omega) (by omega)).trans (by first | rfl | rw [if_neg (by omega), if_neg (by omega)])))
    · show hpI (stI (stI (mkH g σ8 g.2.2.1) 40 0 72) 38 3 1) 54 i = bz (¬ (-1 : Int32) = -1)
      rw [bz_f (fun y => y rfl)]; exact (show hpI (stI (stI (mkH g σ8 g.2.2.1) 40 0 72) 38 3 1) 54 i = _ by rw [hpI_st, if_neg (by omega), hpI_st, if_neg (by omega)]; exact (f8 54 i (by omega)).trans ((hi 54 i (by omega) (by omega)).trans (by first | rfl | rw [if_neg (by omega), if_neg (by omega)])))
  refine v_aload_n hX rfl qX12_init_0 ?_
  refine v_objInit hX hR (Nat.le_of_ble_eq_true rfl) k_X12_7 (Nat.le_of_ble_eq_true rfl) qX12_init_1 ?_
  refine v_aload_n hX rfl qX12_init_4 ?_
  refine v_sipush hX ls_960 qX12_init_5 ?_
  refine v_newa (L := 960) (c := 100) hX hR (Or.inl ⟨rfl, rfl⟩) ar_int (by decide) rfl (Nat.le_of_ble_eq_true rfl) (Nat.le_of_ble_eq_true rfl) ⟨Nat.le_of_ble_eq_true rfl, Nat.le_of_ble_eq_true rfl⟩ qX12_init_8 ?_
  refine v_putR hX p_X12_13 ⟨hk12, Nat.le_of_ble_eq_true rfl⟩ (Or.inr hnm) qX12_init_10 ?_
  refine v_aload_n hX rfl qX12_init_13 ?_
  refine v_bipush hX lb_6 qX12_init_14 ?_
  refine v_newa (L := 6) (c := 100) hX hR (Or.inl ⟨rfl, rfl⟩) ar_int (by decide) rfl (Nat.le_of_ble_eq_true rfl) (Nat.le_of_ble_eq_true rfl) ⟨Nat.le_of_ble_eq_true rfl, Nat.le_of_ble_eq_true rfl⟩ qX12_init_16 ?_
  refine v_putR hX p_X12_17 ⟨hk12, Nat.le_of_ble_eq_true rfl⟩ (Or.inr hnm) qX12_init_18 ?_
  refine v_aload_n hX rfl qX12_init_21 ?_
  refine v_sipush hX ls_160 qX12_init_22 ?_
  refine v_newa (L := 160) (c := 100) hX hR (Or.inl ⟨rfl, rfl⟩) ar_int (by decide) rfl (Nat.le_of_ble_eq_true rfl) (Nat.le_of_ble_eq_true rfl) ⟨Nat.le_of_ble_eq_true rfl, Nat.le_of_ble_eq_true rfl⟩ qX12_init_25 ?_
  refine v_putR hX p_X12_20 ⟨hk12, Nat.le_of_ble_eq_true rfl⟩ (Or.inr hnm) qX12_init_27 ?_
  refine v_aload_n hX rfl qX12_init_30 ?_
  refine v_bipush hX lb_48 qX12_init_31 ?_
  refine v_newa (L := 48) (c := 100) hX hR (Or.inl ⟨rfl, rfl⟩) ar_int (by decide) rfl (Nat.le_of_ble_eq_true rfl) (Nat.le_of_ble_eq_true rfl) ⟨Nat.le_of_ble_eq_true rfl, Nat.le_of_ble_eq_true rfl⟩ qX12_init_33 ?_
  refine v_putR hX p_X12_23 ⟨hk12, Nat.le_of_ble_eq_true rfl⟩ (Or.inr hnm) qX12_init_35 ?_
  refine v_aload_n hX rfl qX12_init_38 ?_
  refine v_bipush hX lb_48 qX12_init_39 ?_
  refine v_newa (L := 48) (c := 100) hX hR (Or.inl ⟨rfl, rfl⟩) ar_int (by decide) rfl (Nat.le_of_ble_eq_true rfl) (Nat.le_of_ble_eq_true rfl) ⟨Nat.le_of_ble_eq_true rfl, Nat.le_of_ble_eq_true rfl⟩ qX12_init_41 ?_
  refine v_putR hX p_X12_26 ⟨hk12, Nat.le_of_ble_eq_true rfl⟩ (Or.inr hnm) qX12_init_43 ?_
  refine v_aload_n hX rfl qX12_init_46 ?_
  refine v_bipush hX lb_12 qX12_init_47 ?_
  refine v_putI hX p_X12_29 ⟨hk12, Nat.le_of_ble_eq_true rfl⟩ (Or.inl rfl) qX12_init_49 ?_
  refine v_aload_n hX rfl qX12_init_52 ?_
  refine v_bipush hX lb_6 qX12_init_53 ?_
  refine v_newa (L := 6) (c := 100) hX hR (Or.inl ⟨rfl, rfl⟩) ar_int (by decide) rfl (Nat.le_of_ble_eq_true rfl) (Nat.le_of_ble_eq_true rfl) ⟨Nat.le_of_ble_eq_true rfl, Nat.le_of_ble_eq_true rfl⟩ qX12_init_55 ?_
  refine v_putR hX p_X12_32 ⟨hk12, Nat.le_of_ble_eq_true rfl⟩ (Or.inr hnm) qX12_init_57 ?_
  refine v_aload_n hX rfl qX12_init_60 ?_
  refine v_bipush hX lb_6 qX12_init_61 ?_
  refine v_newa (L := 6) (c := 100) hX hR (Or.inl ⟨rfl, rfl⟩) ar_int (by decide) rfl (Nat.le_of_ble_eq_true rfl) (Nat.le_of_ble_eq_true rfl) ⟨Nat.le_of_ble_eq_true rfl, Nat.le_of_ble_eq_true rfl⟩ qX12_init_63 ?_
  refine v_putR hX p_X12_35 ⟨hk12, Nat.le_of_ble_eq_true rfl⟩ (Or.inr hnm) qX12_init_65 ?_
  refine v_aload_n hX rfl qX12_init_68 ?_
  refine v_bipush hX lb_6 qX12_init_69 ?_
  refine v_newa (L := 6) (c := 100) hX hR (Or.inl ⟨rfl, rfl⟩) ar_int (by decide) rfl (Nat.le_of_ble_eq_true rfl) (Nat.le_of_ble_eq_true rfl) ⟨Nat.le_of_ble_eq_true rfl, Nat.le_of_ble_eq_true rfl⟩ qX12_init_71 ?_
  refine v_putR hX p_X12_38 ⟨hk12, Nat.le_of_ble_eq_true rfl⟩ (Or.inr hnm) qX12_init_73 ?_
  refine v_aload_n hX rfl qX12_init_76 ?_
  refine v_bipush hX lb_6 qX12_init_77 ?_
  refine v_newa (L := 6) (c := 100) hX hR (Or.inl ⟨rfl, rfl⟩) ar_int (by decide) rfl (Nat.le_of_ble_eq_true rfl) (Nat.le_of_ble_eq_true rfl) ⟨Nat.le_of_ble_eq_true rfl, Nat.le_of_ble_eq_true rfl⟩ qX12_init_79 ?_
  refine v_putR hX p_X12_41 ⟨hk12, Nat.le_of_ble_eq_true rfl⟩ (Or.inr hnm) qX12_init_81 ?_
  refine v_aload_n hX rfl qX12_init_84 ?_
  refine v_bipush hX lb_48 qX12_init_85 ?_
  refine v_newa (L := 48) (c := 100) hX hR (Or.inl ⟨rfl, rfl⟩) ar_int (by decide) rfl (Nat.le_of_ble_eq_true rfl) (Nat.le_of_ble_eq_true rfl) ⟨Nat.le_of_ble_eq_true rfl, Nat.le_of_ble_eq_true rfl⟩ qX12_init_87 ?_
  refine v_putR hX p_X12_44 ⟨hk12, Nat.le_of_ble_eq_true rfl⟩ (Or.inr hnm) qX12_init_89 ?_
  refine v_aload_n hX rfl qX12_init_92 ?_
  refine v_bipush hX lb_48 qX12_init_93 ?_
  refine v_newa (L := 48) (c := 100) hX hR (Or.inl ⟨rfl, rfl⟩) ar_int (by decide) rfl (Nat.le_of_ble_eq_true rfl) (Nat.le_of_ble_eq_true rfl) ⟨Nat.le_of_ble_eq_true rfl, Nat.le_of_ble_eq_true rfl⟩ qX12_init_95 ?_
  refine v_putR hX p_X12_47 ⟨hk12, Nat.le_of_ble_eq_true rfl⟩ (Or.inr hnm) qX12_init_97 ?_
  refine v_aload_n hX rfl qX12_init_100 ?_
  refine v_bipush hX lb_20 qX12_init_101 ?_
  refine v_newa (L := 20) (c := 100) hX hR (Or.inl ⟨rfl, rfl⟩) ar_int (by decide) rfl (Nat.le_of_ble_eq_true rfl) (Nat.le_of_ble_eq_true rfl) ⟨Nat.le_of_ble_eq_true rfl, Nat.le_of_ble_eq_true rfl⟩ qX12_init_103 ?_
  refine v_putR hX p_X12_50 ⟨hk12, Nat.le_of_ble_eq_true rfl⟩ (Or.inr hnm) qX12_init_105 ?_
  refine v_aload_n hX rfl qX12_init_108 ?_
  refine v_bipush hX lb_20 qX12_init_109 ?_
  refine v_newa (L := 20) (c := 100) hX hR (Or.inl ⟨rfl, rfl⟩) ar_int (by decide) rfl (Nat.le_of_ble_eq_true rfl) (Nat.le_of_ble_eq_true rfl) ⟨Nat.le_of_ble_eq_true rfl, Nat.le_of_ble_eq_true rfl⟩ qX12_init_111 ?_
  refine v_putR hX p_X12_53 ⟨hk12, Nat.le_of_ble_eq_true rfl⟩ (Or.inr hnm) qX12_init_113 ?_
  refine v_aload_n hX rfl qX12_init_116 ?_
  refine v_bipush hX lb_48 qX12_init_117 ?_
  refine v_newa (L := 48) (c := 100) hX hR (Or.inl ⟨rfl, rfl⟩) ar_int (by decide) rfl (Nat.le_of_ble_eq_true rfl) (Nat.le_of_ble_eq_true rfl) ⟨Nat.le_of_ble_eq_true rfl, Nat.le_of_ble_eq_true rfl⟩ qX12_init_119 ?_
  refine v_putR hX p_X12_56 ⟨hk12, Nat.le_of_ble_eq_true rfl⟩ (Or.inr hnm) qX12_init_121 ?_
  refine v_aload_n hX rfl qX12_init_124 ?_
  refine v_bipush hX lb_48 qX12_init_125 ?_
  refine v_newa (L := 48) (c := 100) hX hR (Or.inl ⟨rfl, rfl⟩) ar_int (by decide) rfl (Nat.le_of_ble_eq_true rfl) (Nat.le_of_ble_eq_true rfl) ⟨Nat.le_of_ble_eq_true rfl, Nat.le_of_ble_eq_true rfl⟩ qX12_init_127 ?_
  refine v_putR hX p_X12_59 ⟨hk12, Nat.le_of_ble_eq_true rfl⟩ (Or.inr hnm) qX12_init_129 ?_
  refine v_aload_n hX rfl qX12_init_132 ?_
  refine v_iconst hX li_n1 qX12_init_133 ?_
  refine v_putI hX p_X12_62 ⟨hk12, Nat.le_of_ble_eq_true rfl⟩ (Or.inl rfl) qX12_init_134 ?_
  refine v_aload_n hX rfl qX12_init_137 ?_
  refine v_iconst hX li_4 qX12_init_138 ?_
  refine v_newa (L := 4) (c := 101) hX hR (Or.inr ⟨rfl, rfl⟩) ar_boolean (by decide) rfl (Nat.le_of_ble_eq_true rfl) (Nat.le_of_ble_eq_true rfl) ⟨Nat.le_of_ble_eq_true rfl, Nat.le_of_ble_eq_true rfl⟩ qX12_init_139 ?_
  refine v_putR hX p_X12_65 ⟨hk12, Nat.le_of_ble_eq_true rfl⟩ (Or.inr hnm) qX12_init_141 ?_
  refine v_aload_n hX rfl qX12_init_144 ?_
  refine v_iconst hX li_4 qX12_init_145 ?_
  refine v_newa (L := 4) (c := 100) hX hR (Or.inl ⟨rfl, rfl⟩) ar_int (by decide) rfl (Nat.le_of_ble_eq_true rfl) (Nat.le_of_ble_eq_true rfl) ⟨Nat.le_of_ble_eq_true rfl, Nat.le_of_ble_eq_true rfl⟩ qX12_init_146 ?_
  refine v_putR hX p_X12_69 ⟨hk12, Nat.le_of_ble_eq_true rfl⟩ (Or.inr hnm) qX12_init_148 ?_
  refine v_aload_n hX rfl qX12_init_151 ?_
  refine v_iconst hX li_4 qX12_init_152 ?_
  refine v_newa (L := 4) (c := 100) hX hR (Or.inl ⟨rfl, rfl⟩) ar_int (by decide) rfl (Nat.le_of_ble_eq_true rfl) (Nat.le_of_ble_eq_true rfl) ⟨Nat.le_of_ble_eq_true rfl, Nat.le_of_ble_eq_true rfl⟩ qX12_init_153 ?_
  refine v_putR hX p_X12_72 ⟨hk12, Nat.le_of_ble_eq_true rfl⟩ (Or.inr hnm) qX12_init_155 ?_
  refine v_aload_n hX rfl qX12_init_158 ?_
  refine v_sipush hX ls_160 qX12_init_159 ?_
  refine v_newa (L := 160) (c := 100) hX hR (Or.inl ⟨rfl, rfl⟩) ar_int (by decide) rfl (Nat.le_of_ble_eq_true rfl) (Nat.le_of_ble_eq_true rfl) ⟨Nat.le_of_ble_eq_true rfl, Nat.le_of_ble_eq_true rfl⟩ qX12_init_162 ?_
  refine v_putR hX p_X12_75 ⟨hk12, Nat.le_of_ble_eq_true rfl⟩ (Or.inr hnm) qX12_init_164 ?_
  refine T167 _ ⟨Nat.le_of_ble_eq_true rfl, ?_, ?_, ?_⟩ rfl (fun a k ha ha2 => ?_) ?_
  · intro i c e
    have hl : i < 20 := (List.getElem?_eq_some_iff.mp e).1
    have h20 : i = 0 ∨ i = 1 ∨ i = 2 ∨ i = 3 ∨ i = 4 ∨ i = 5 ∨ i = 6 ∨ i = 7 ∨ i = 8 ∨ i = 9 ∨ i = 10 ∨ i = 11 ∨ i = 12 ∨ i = 13 ∨ i = 14 ∨ i = 15 ∨ i = 16 ∨ i = 17 ∨ i = 18 ∨ i = 19 := by omega
    rcases h20 with rfl | rfl | rfl | rfl | rfl | rfl | rfl | rfl | rfl | rfl | rfl | rfl | rfl | rfl | rfl | rfl | rfl | rfl | rfl | rfl <;> (injection e with e <;> first | rfl | exact hk12 | (subst e; first | rfl | exact hk12))
  · intro i c e
    have hl : i < 20 := (List.getElem?_eq_some_iff.mp e).1
    have h20 : i = 0 ∨ i = 1 ∨ i = 2 ∨ i = 3 ∨ i = 4 ∨ i = 5 ∨ i = 6 ∨ i = 7 ∨ i = 8 ∨ i = 9 ∨ i = 10 ∨ i = 11 ∨ i = 12 ∨ i = 13 ∨ i = 14 ∨ i = 15 ∨ i = 16 ∨ i = 17 ∨ i = 18 ∨ i = 19 := by omega
    rcases h20 with rfl | rfl | rfl | rfl | rfl | rfl | rfl | rfl | rfl | rfl | rfl | rfl | rfl | rfl | rfl | rfl | rfl | rfl | rfl | rfl <;> (injection e with e <;> first | rfl | exact hl0 | (subst e; first | rfl | exact hl0))
  · intro e he
    simp only [rTM, List.mem_cons, List.not_mem_nil, or_false] at he
    rcases he with rfl | rfl | rfl | rfl | rfl | rfl | rfl | rfl | rfl | rfl | rfl | rfl | rfl | rfl | rfl | rfl | rfl | rfl | rfl <;> rfl
  · have h20 : a = 38 ∨ a = 39 ∨ a = 40 ∨ a = 41 ∨ a = 42 ∨ a = 43 ∨ a = 44 ∨ a = 45 ∨ a = 46 ∨ a = 47 ∨ a = 48 ∨ a = 49 ∨ a = 50 ∨ a = 51 ∨ a = 52 ∨ a = 53 ∨ a = 54 ∨ a = 55 ∨ a = 56 ∨ a = 57 := by omega
    rcases h20 with rfl | h20
    · show (if (38 : Nat) = 38 ∧ k = 46 then (-1 : Int32) else if (38 : Nat) = 38 ∧ k = 10 then 12 else I 38 k) = _
      by_cases e1 : k = 10
      · subst e1; rfl
      · have h10 : ¬ ((38 : Nat) = 38 ∧ k = 10) := fun y => e1 y.2
        rw [hI0 k, if_neg h10, if_neg h10]
    · rcases h20 with rfl | rfl | rfl | rfl | rfl | rfl | rfl | rfl | rfl | rfl | rfl | rfl | rfl | rfl | rfl | rfl | rfl | rfl | rfl <;> rfl
  · repeat first | exact Lo.rf _ | refine Lo.sR ?_ (Nat.le_of_ble_eq_true rfl) | refine Lo.sI ?_ (Nat.le_of_ble_eq_true rfl) | refine Lo.sN ?_ (Nat.le_of_ble_eq_true rfl)
