/-! the reference: opens, name, atom -/
/-- token i is read, o are open -/
def MAt (by' : Nat → Int32) (sz t o i : Nat) (h : AHp) : Prop := MTx by' sz t o h ∧ MTo by' sz (pl by' sz i) h
def EnvM (h : AHp) (env : Nat → Int32) : Prop := ∀ k, k < 6 → hpI h 38 (15 + k) = env k
theorem FrE.env {h : AHp} {σ : Nat → Nat → Int32} {J : Nat → Nat → Int64} (hf : FrE h σ J) {env : Nat → Int32} (he : EnvM h env) : EnvM (mkH h σ J) env := fun k hk => (hf.1 38 (15 + k) (by omega)).trans (he k hk)
def PoM (by' : Nat → Int32) (sz t o : Nat) (env : Nat → Int32) (h : AHp) (σ : Nat → Nat → Int32) (J : Nat → Nat → Int64) (x : Int32) : PR → Prop
  | .inl f => σ 38 28 = 1 ∧ σ 38 29 = nI (pl by' sz f)
  | .inr (j, _, v) => x = v env ∧ MAt by' sz t o j (mkH h σ J)
def MSub (G : Glb) (by' : Nat → Int32) (sz t : Nat) (m : Mth) (d o : Nat) (sub : Nat → PR) : Prop := ∀ h i env, ShM h → MAt by' sz t o i h → EnvM h env → CP G m d 0 0 [.ref 38] h (fun r h' => ∃ σ J x, r = some (.int x) ∧ h' = mkH h σ J ∧ FrE h σ J ∧ PoM by' sz t o env h σ J x (sub i))
theorem PoM.of {by' : Nat → Int32} {sz t o : Nat} {env : Nat → Int32} {h : AHp} {σ : Nat → Nat → Int32} {J : Nat → Nat → Int64} {x : Int32} {r r' : PR} (hp : PoM by' sz t o env h σ J x r) (e : r' = r) : PoM by' sz t o env h σ J x r' := by rw [e]; exact hp
section MAT
variable {G : Glb} {by' : Nat → Int32} {sz t o i : Nat} {h : AHp}
theorem MAt.opn (ha : MAt by' sz t o i h) (o' : Nat) : MAt by' sz t o' i (stI h 38 27 (nI o')) := ⟨ha.1.e (h' := stI h 38 27 (nI o')) rfl rfl rfl rfl rfl, ha.2⟩
theorem MAt.here (ha : MAt by' sz t o i h) (hk : mT by' sz (pl by' sz i) = 1 ∨ mT by' sz (pl by' sz i) = 2 ∨ mT by' sz (pl by' sz i) = 3) : hpI h 38 23 = nI (tEnd by' sz (pl by' sz i)) ∧ pl by' sz i < sz := by
  rcases hk with e | e | e
  · obtain ⟨h1, h2⟩ := tEnd_w e
    exact ⟨by rw [h2]; exact ha.2.2.2.2.1 e, h1⟩
  · obtain ⟨h1, h2⟩ := tEnd_n e
    exact ⟨by rw [h2]; exact (ha.2.2.2.2.2.1 e).1, h1⟩
  · obtain ⟨h1, -, h2⟩ := tEnd_s e
    exact ⟨by rw [h2]; exact (ha.2.2.2.2.2.2 e).1, h1⟩
theorem m_nx (hm : ShM h) (ha : MAt by' sz t o i h) (hk : mT by' sz (pl by' sz i) = 1 ∨ mT by' sz (pl by' sz i) = 2 ∨ mT by' sz (pl by' sz i) = 3) : CP G m_X12_nextToken 2 0 0 [.ref 38] h (fun r h' => r = none ∧ ∃ σ J, h' = mkH h σ J ∧ FrE h σ J ∧ MAt by' sz t o (i + 1) (mkH h σ J)) := by
  obtain ⟨h1, h2⟩ := ha.here hk
  have z := m_nextToken (G := G) hm ha.1 (tEnd_le h2) h1
  rw [← pl_next h2] at z
  exact z
theorem w64i {a b : Int32} : a.toInt64 = b.toInt64 ↔ a = b := by rw [← Int64.toInt_inj, Int32.toInt_toInt64, Int32.toInt_toInt64, Int32.toInt_inj]
theorem MAt.sg (ha : MAt by' sz t o i h) {s : Int32} (hs : isSg s = true) : (hpI h 38 28 = 0 ∧ hpI h 38 24 = 3 ∧ hpJ h 38 26 = s.toInt64) ↔ tkK by' sz i = s := by
  rw [← sg_iff (by' := by') (sz := sz) (p := pl by' sz i) hs]
  constructor
  · rintro ⟨-, h2, h3⟩
    have h2 : mT by' sz (pl by' sz i) = 3 := ha.2.2.1.symm.trans h2
    exact ⟨h2, w64i.mp ((ha.2.2.2.2.2.2 h2).2.symm.trans h3)⟩
  · rintro ⟨h1, h2⟩
    exact ⟨ha.1.2.2.2.2.2.2, ha.2.2.1.trans h1, by rw [(ha.2.2.2.2.2.2 h1).2, h2]⟩
theorem MAt.sg3 {s : Int32} (hs : isSg s = true) (hk : tkK by' sz i = s) : mT by' sz (pl by' sz i) = 3 := (sg_iff hs).mpr hk |>.1
theorem m_sgA (hm : ShM h) (ha : MAt by' sz t o i h) {s : Int32} (hs : isSg s = true) : CP G m_X12_isSign 1 0 0 [.ref 38, .int s] h (fun r h' => r = some (.int (bz (tkK by' sz i = s))) ∧ h = h') := by
  have z := m_isSign (G := G) hm s
  rw [show bz (hpI h 38 28 = 0 ∧ hpI h 38 24 = 3 ∧ hpJ h 38 26 = s.toInt64) = bz (tkK by' sz i = s) from bz_c (ha.sg hs)] at z
  exact z
theorem m_sgB (hm : ShM h) (hb : hpI h 38 28 = 1) (s : Int32) : CP G m_X12_isSign 1 0 0 [.ref 38, .int s] h (fun r h' => r = some (.int 0) ∧ h = h') := by
  have z := m_isSign (G := G) hm s
  rw [show bz (hpI h 38 28 = 0 ∧ hpI h 38 24 = 3 ∧ hpJ h 38 26 = s.toInt64) = 0 from bz_f (fun y => by rw [hb] at y; exact absurd y.1 (by decide))] at z
  exact z
theorem kw8 {c : Int32} {w : List Int32} (hk : (c, w) ∈ keyL) : w.length ≤ 8 ∧ ∀ x, x ∈ w → ¬ x = 0 := by
  have : ∀ q ∈ keyL, q.2.length ≤ 8 ∧ ∀ x ∈ q.2, ¬ x = 0 := by decide
  exact this _ hk
theorem m_wdA (hm : ShM h) (ha : MAt by' sz t o i h) {c : Int32} {w : List Int32} (hk : (c, w) ∈ keyL) : CP G m_X12_isWord 3 0 0 [.ref 38, .int (w.getD 0 0), .int (w.getD 1 0), .int (w.getD 2 0), .int (w.getD 3 0), .int (w.getD 4 0), .int (w.getD 5 0), .int (w.getD 6 0), .int (w.getD 7 0)] h (fun r h' => r = some (.int (bz (tkK by' sz i = c))) ∧ h = h') := by
  have z := m_isWord (G := G) hm ha.1 ha.2 w (kw8 hk).1 (kw8 hk).2
  rw [show bz (mT by' sz (pl by' sz i) = 1 ∧ wordIs by' sz (pl by' sz i) w = true) = bz (tkK by' sz i = c) from bz_c (key_iff hk)] at z
  exact z
theorem MAt.wd1 {c : Int32} {w : List Int32} (hk : (c, w) ∈ keyL) (h : tkK by' sz i = c) : mT by' sz (pl by' sz i) = 1 := ((key_iff hk).mpr h).1
end MAT
theorem qX12_opens_0 : Dq cX12_opens 0 (.aload_n 0) 1 1 := ⟨by decide +kernel, rfl⟩
theorem qX12_opens_1 : Dq cX12_opens 1 (.getfield 167) 3 4 := ⟨by decide +kernel, rfl⟩
theorem qX12_opens_4 : Dq cX12_opens 4 (.iconst 5) 1 5 := ⟨by decide +kernel, rfl⟩
theorem qX12_opens_5 : Dq cX12_opens 5 (.if_icmp .ne 9) 3 8 := ⟨by decide +kernel, rfl⟩
theorem qX12_opens_8 : Dq cX12_opens 8 (.aload_n 0) 1 9 := ⟨by decide +kernel, rfl⟩
theorem qX12_opens_9 : Dq cX12_opens 9 (.invokevirtual 170) 3 12 := ⟨by decide +kernel, rfl⟩
theorem qX12_opens_12 : Dq cX12_opens 12 (.iconst 0) 1 13 := ⟨by decide +kernel, rfl⟩
theorem qX12_opens_13 : Dq cX12_opens 13 (.ireturn) 1 14 := ⟨by decide +kernel, rfl⟩
theorem qX12_opens_14 : Dq cX12_opens 14 (.aload_n 0) 1 15 := ⟨by decide +kernel, rfl⟩
theorem qX12_opens_15 : Dq cX12_opens 15 (.dup) 1 16 := ⟨by decide +kernel, rfl⟩
theorem qX12_opens_16 : Dq cX12_opens 16 (.getfield 167) 3 19 := ⟨by decide +kernel, rfl⟩
theorem qX12_opens_19 : Dq cX12_opens 19 (.iconst 1) 1 20 := ⟨by decide +kernel, rfl⟩
theorem qX12_opens_20 : Dq cX12_opens 20 (.iadd) 1 21 := ⟨by decide +kernel, rfl⟩
theorem qX12_opens_21 : Dq cX12_opens 21 (.putfield 167) 3 24 := ⟨by decide +kernel, rfl⟩
theorem qX12_opens_24 : Dq cX12_opens 24 (.aload_n 0) 1 25 := ⟨by decide +kernel, rfl⟩
theorem qX12_opens_25 : Dq cX12_opens 25 (.invokevirtual 173) 3 28 := ⟨by decide +kernel, rfl⟩
theorem qX12_opens_28 : Dq cX12_opens 28 (.iconst 1) 1 29 := ⟨by decide +kernel, rfl⟩
theorem qX12_opens_29 : Dq cX12_opens 29 (.ireturn) 1 30 := ⟨by decide +kernel, rfl⟩
set_option maxRecDepth 100000 in
set_option maxHeartbeats 4000000 in
theorem m_opens {G : Glb} {h : AHp} (hm : ShM h) {by' : Nat → Int32} {sz t o i : Nat} (ha : MAt by' sz t o i h) (ho5 : o ≤ 5) (hk : mT by' sz (pl by' sz i) = 1 ∨ mT by' sz (pl by' sz i) = 2 ∨ mT by' sz (pl by' sz i) = 3) : CP G m_X12_opens 3 0 0 [.ref 38] h (fun r h' => (o < 5 ∧ r = some (.int 1) ∧ ∃ σ J, h' = mkH h σ J ∧ FrE h σ J ∧ MAt by' sz t (o + 1) (i + 1) (mkH h σ J)) ∨ (¬ o < 5 ∧ r = some (.int 0) ∧ stI (stI h 38 28 1) 38 29 (nI (pl by' sz i)) = h')) := by
  suffices key : ∀ P : Option Value → AHp → Prop, (∀ r h', ((o < 5 ∧ r = some (.int 1) ∧ ∃ σ J, h' = mkH h σ J ∧ FrE h σ J ∧ MAt by' sz t (o + 1) (i + 1) (mkH h σ J)) ∨ (¬ o < 5 ∧ r = some (.int 0) ∧ stI (stI h 38 28 1) 38 29 (nI (pl by' sz i)) = h')) → P r h') → CP G m_X12_opens 3 0 0 [.ref 38] h P from key _ (fun _ _ z => z)
  intro P hP
  refine CP.of (by decide +kernel) (Nat.le_of_ble_eq_true rfl) fun X hX hR hnm => ?_
  show V X G 1 0 0 _ 0 [some (.ref 38)] [] h
  refine v_aload_n hX rfl qX12_opens_0 ?_
  refine v_getIv hX g_X12_167 (Or.inl rfl) (hm.kd 38 rfl) ha.1.2.2.2.2.2.1 qX12_opens_1 ?_
  refine v_iconst hX li_5 qX12_opens_4 ?_
  refine v_icmp_ne hX 14 qX12_opens_5 rfl (fun q5 => ?_) (fun q5 => ?_)
  · have hr : o < 5 := by
      rcases Nat.lt_or_ge o 5 with z | z
      · exact z
      · exact absurd (show nI o = 5 by rw [show o = 5 by omega]; rfl) q5
    refine v_aload_n hX rfl qX12_opens_14 ?_
    refine v_dup hX rfl qX12_opens_15 ?_
    refine v_getIv hX g_X12_167 (Or.inl rfl) (hm.kd 38 rfl) (show _ = nI o from ha.1.2.2.2.2.2.1) qX12_opens_16 ?_
    refine v_iconst hX li_1 qX12_opens_19 ?_
    refine v_iadd hX qX12_opens_20 ?_
    refine v_eqI (nI_1 o) ?_
    refine v_putI hX p_X12_167 (hm.kd 38 rfl) (Or.inl rfl) qX12_opens_21 ?_
    refine v_aload_n hX rfl qX12_opens_24 ?_
    refine v_callVq hX hR k_X12_173 (hm.kd 38 rfl) (m_nx (by exact hm) (by exact (ha.opn (o + 1))) (by exact hk)) rfl (Nat.le_of_ble_eq_true rfl) rfl (Nat.le_of_ble_eq_true rfl) ⟨Nat.le_of_ble_eq_true rfl, Nat.le_of_ble_eq_true rfl⟩ qX12_opens_25 ?_
    rintro _ _ ⟨rfl, σ, J, rfl, hf, hat⟩
    refine v_iconst hX li_1 qX12_opens_28 ?_
    refine v_zreturn hX (by first | exact Or.inl rfl | exact Or.inr rfl | exact bz01 _) qX12_opens_29 (hP _ _ ?_)
    exact Or.inl ⟨hr, rfl, σ, J, rfl, ⟨fun a k hak => (hf.1 a k hak).trans (by rw [hpI_st, if_neg (by omega)]), hf.2⟩, hat⟩
  · have hr : ¬ o < 5 := fun z => by have := (nI_eq (a := o) (b := 5) (by omega) (by omega)).mp q5; omega
    refine v_aload_n hX rfl qX12_opens_8 ?_
    refine v_callVq hX hR k_X12_170 (hm.kd 38 rfl) (m_fail0 (by exact hm) (by exact ha.1.2.2.2.2.2.2) (by exact ha.2.2.2.1)) rfl (Nat.le_of_ble_eq_true rfl) rfl (Nat.le_of_ble_eq_true rfl) ⟨Nat.le_of_ble_eq_true rfl, Nat.le_of_ble_eq_true rfl⟩ qX12_opens_9 ?_
    rintro _ _ ⟨rfl, rfl⟩
    refine v_iconst hX li_0 qX12_opens_12 ?_
    refine v_zreturn hX (by first | exact Or.inl rfl | exact Or.inr rfl | exact bz01 _) qX12_opens_13 (hP _ _ ?_)
    exact Or.inr ⟨hr, rfl, rfl⟩
theorem qX12_name_0 : Dq cX12_name 0 (.aload_n 0) 1 1 := ⟨by decide +kernel, rfl⟩
theorem qX12_name_1 : Dq cX12_name 1 (.bipush 121) 2 3 := ⟨by decide +kernel, rfl⟩
theorem qX12_name_3 : Dq cX12_name 3 (.iconst 0) 1 4 := ⟨by decide +kernel, rfl⟩
theorem qX12_name_4 : Dq cX12_name 4 (.iconst 0) 1 5 := ⟨by decide +kernel, rfl⟩
theorem qX12_name_5 : Dq cX12_name 5 (.iconst 0) 1 6 := ⟨by decide +kernel, rfl⟩
theorem qX12_name_6 : Dq cX12_name 6 (.iconst 0) 1 7 := ⟨by decide +kernel, rfl⟩
theorem qX12_name_7 : Dq cX12_name 7 (.iconst 0) 1 8 := ⟨by decide +kernel, rfl⟩
theorem qX12_name_8 : Dq cX12_name 8 (.iconst 0) 1 9 := ⟨by decide +kernel, rfl⟩
theorem qX12_name_9 : Dq cX12_name 9 (.iconst 0) 1 10 := ⟨by decide +kernel, rfl⟩
theorem qX12_name_10 : Dq cX12_name 10 (.invokevirtual 176) 3 13 := ⟨by decide +kernel, rfl⟩
theorem qX12_name_13 : Dq cX12_name 13 (.ifCond .eq 8) 3 16 := ⟨by decide +kernel, rfl⟩
theorem qX12_name_16 : Dq cX12_name 16 (.aload_n 0) 1 17 := ⟨by decide +kernel, rfl⟩
theorem qX12_name_17 : Dq cX12_name 17 (.getfield 180) 3 20 := ⟨by decide +kernel, rfl⟩
theorem qX12_name_20 : Dq cX12_name 20 (.ireturn) 1 21 := ⟨by decide +kernel, rfl⟩
theorem qX12_name_21 : Dq cX12_name 21 (.aload_n 0) 1 22 := ⟨by decide +kernel, rfl⟩
theorem qX12_name_22 : Dq cX12_name 22 (.bipush 120) 2 24 := ⟨by decide +kernel, rfl⟩
theorem qX12_name_24 : Dq cX12_name 24 (.iconst 0) 1 25 := ⟨by decide +kernel, rfl⟩
theorem qX12_name_25 : Dq cX12_name 25 (.iconst 0) 1 26 := ⟨by decide +kernel, rfl⟩
theorem qX12_name_26 : Dq cX12_name 26 (.iconst 0) 1 27 := ⟨by decide +kernel, rfl⟩
theorem qX12_name_27 : Dq cX12_name 27 (.iconst 0) 1 28 := ⟨by decide +kernel, rfl⟩
theorem qX12_name_28 : Dq cX12_name 28 (.iconst 0) 1 29 := ⟨by decide +kernel, rfl⟩
theorem qX12_name_29 : Dq cX12_name 29 (.iconst 0) 1 30 := ⟨by decide +kernel, rfl⟩
theorem qX12_name_30 : Dq cX12_name 30 (.iconst 0) 1 31 := ⟨by decide +kernel, rfl⟩
theorem qX12_name_31 : Dq cX12_name 31 (.invokevirtual 176) 3 34 := ⟨by decide +kernel, rfl⟩
theorem qX12_name_34 : Dq cX12_name 34 (.ifCond .eq 8) 3 37 := ⟨by decide +kernel, rfl⟩
theorem qX12_name_37 : Dq cX12_name 37 (.aload_n 0) 1 38 := ⟨by decide +kernel, rfl⟩
theorem qX12_name_38 : Dq cX12_name 38 (.getfield 183) 3 41 := ⟨by decide +kernel, rfl⟩
theorem qX12_name_41 : Dq cX12_name 41 (.ireturn) 1 42 := ⟨by decide +kernel, rfl⟩
theorem qX12_name_42 : Dq cX12_name 42 (.aload_n 0) 1 43 := ⟨by decide +kernel, rfl⟩
theorem qX12_name_43 : Dq cX12_name 43 (.bipush 100) 2 45 := ⟨by decide +kernel, rfl⟩
theorem qX12_name_45 : Dq cX12_name 45 (.bipush 101) 2 47 := ⟨by decide +kernel, rfl⟩
theorem qX12_name_47 : Dq cX12_name 47 (.bipush 112) 2 49 := ⟨by decide +kernel, rfl⟩
theorem qX12_name_49 : Dq cX12_name 49 (.bipush 116) 2 51 := ⟨by decide +kernel, rfl⟩
theorem qX12_name_51 : Dq cX12_name 51 (.bipush 104) 2 53 := ⟨by decide +kernel, rfl⟩
theorem qX12_name_53 : Dq cX12_name 53 (.iconst 0) 1 54 := ⟨by decide +kernel, rfl⟩
theorem qX12_name_54 : Dq cX12_name 54 (.iconst 0) 1 55 := ⟨by decide +kernel, rfl⟩
theorem qX12_name_55 : Dq cX12_name 55 (.iconst 0) 1 56 := ⟨by decide +kernel, rfl⟩
theorem qX12_name_56 : Dq cX12_name 56 (.invokevirtual 176) 3 59 := ⟨by decide +kernel, rfl⟩
theorem qX12_name_59 : Dq cX12_name 59 (.ifCond .eq 8) 3 62 := ⟨by decide +kernel, rfl⟩
theorem qX12_name_62 : Dq cX12_name 62 (.aload_n 0) 1 63 := ⟨by decide +kernel, rfl⟩
theorem qX12_name_63 : Dq cX12_name 63 (.getfield 186) 3 66 := ⟨by decide +kernel, rfl⟩
theorem qX12_name_66 : Dq cX12_name 66 (.ireturn) 1 67 := ⟨by decide +kernel, rfl⟩
theorem qX12_name_67 : Dq cX12_name 67 (.aload_n 0) 1 68 := ⟨by decide +kernel, rfl⟩
theorem qX12_name_68 : Dq cX12_name 68 (.bipush 116) 2 70 := ⟨by decide +kernel, rfl⟩
theorem qX12_name_70 : Dq cX12_name 70 (.bipush 114) 2 72 := ⟨by decide +kernel, rfl⟩
theorem qX12_name_72 : Dq cX12_name 72 (.bipush 111) 2 74 := ⟨by decide +kernel, rfl⟩
theorem qX12_name_74 : Dq cX12_name 74 (.bipush 100) 2 76 := ⟨by decide +kernel, rfl⟩
theorem qX12_name_76 : Dq cX12_name 76 (.iconst 0) 1 77 := ⟨by decide +kernel, rfl⟩
theorem qX12_name_77 : Dq cX12_name 77 (.iconst 0) 1 78 := ⟨by decide +kernel, rfl⟩
theorem qX12_name_78 : Dq cX12_name 78 (.iconst 0) 1 79 := ⟨by decide +kernel, rfl⟩
theorem qX12_name_79 : Dq cX12_name 79 (.iconst 0) 1 80 := ⟨by decide +kernel, rfl⟩
theorem qX12_name_80 : Dq cX12_name 80 (.invokevirtual 176) 3 83 := ⟨by decide +kernel, rfl⟩
theorem qX12_name_83 : Dq cX12_name 83 (.ifCond .eq 8) 3 86 := ⟨by decide +kernel, rfl⟩
theorem qX12_name_86 : Dq cX12_name 86 (.aload_n 0) 1 87 := ⟨by decide +kernel, rfl⟩
theorem qX12_name_87 : Dq cX12_name 87 (.getfield 189) 3 90 := ⟨by decide +kernel, rfl⟩
theorem qX12_name_90 : Dq cX12_name 90 (.ireturn) 1 91 := ⟨by decide +kernel, rfl⟩
theorem qX12_name_91 : Dq cX12_name 91 (.aload_n 0) 1 92 := ⟨by decide +kernel, rfl⟩
theorem qX12_name_92 : Dq cX12_name 92 (.bipush 104) 2 94 := ⟨by decide +kernel, rfl⟩
theorem qX12_name_94 : Dq cX12_name 94 (.bipush 111) 2 96 := ⟨by decide +kernel, rfl⟩
theorem qX12_name_96 : Dq cX12_name 96 (.bipush 117) 2 98 := ⟨by decide +kernel, rfl⟩
theorem qX12_name_98 : Dq cX12_name 98 (.bipush 114) 2 100 := ⟨by decide +kernel, rfl⟩
theorem qX12_name_100 : Dq cX12_name 100 (.iconst 0) 1 101 := ⟨by decide +kernel, rfl⟩
theorem qX12_name_101 : Dq cX12_name 101 (.iconst 0) 1 102 := ⟨by decide +kernel, rfl⟩
theorem qX12_name_102 : Dq cX12_name 102 (.iconst 0) 1 103 := ⟨by decide +kernel, rfl⟩
theorem qX12_name_103 : Dq cX12_name 103 (.iconst 0) 1 104 := ⟨by decide +kernel, rfl⟩
theorem qX12_name_104 : Dq cX12_name 104 (.invokevirtual 176) 3 107 := ⟨by decide +kernel, rfl⟩
theorem qX12_name_107 : Dq cX12_name 107 (.ifCond .eq 8) 3 110 := ⟨by decide +kernel, rfl⟩
theorem qX12_name_110 : Dq cX12_name 110 (.aload_n 0) 1 111 := ⟨by decide +kernel, rfl⟩
theorem qX12_name_111 : Dq cX12_name 111 (.getfield 192) 3 114 := ⟨by decide +kernel, rfl⟩
theorem qX12_name_114 : Dq cX12_name 114 (.ireturn) 1 115 := ⟨by decide +kernel, rfl⟩
theorem qX12_name_115 : Dq cX12_name 115 (.aload_n 0) 1 116 := ⟨by decide +kernel, rfl⟩
theorem qX12_name_116 : Dq cX12_name 116 (.bipush 115) 2 118 := ⟨by decide +kernel, rfl⟩
theorem qX12_name_118 : Dq cX12_name 118 (.bipush 117) 2 120 := ⟨by decide +kernel, rfl⟩
theorem qX12_name_120 : Dq cX12_name 120 (.bipush 110) 2 122 := ⟨by decide +kernel, rfl⟩
theorem qX12_name_122 : Dq cX12_name 122 (.iconst 0) 1 123 := ⟨by decide +kernel, rfl⟩
theorem qX12_name_123 : Dq cX12_name 123 (.iconst 0) 1 124 := ⟨by decide +kernel, rfl⟩
theorem qX12_name_124 : Dq cX12_name 124 (.iconst 0) 1 125 := ⟨by decide +kernel, rfl⟩
theorem qX12_name_125 : Dq cX12_name 125 (.iconst 0) 1 126 := ⟨by decide +kernel, rfl⟩
theorem qX12_name_126 : Dq cX12_name 126 (.iconst 0) 1 127 := ⟨by decide +kernel, rfl⟩
theorem qX12_name_127 : Dq cX12_name 127 (.invokevirtual 176) 3 130 := ⟨by decide +kernel, rfl⟩
theorem qX12_name_130 : Dq cX12_name 130 (.ifCond .eq 8) 3 133 := ⟨by decide +kernel, rfl⟩
theorem qX12_name_133 : Dq cX12_name 133 (.aload_n 0) 1 134 := ⟨by decide +kernel, rfl⟩
theorem qX12_name_134 : Dq cX12_name 134 (.getfield 195) 3 137 := ⟨by decide +kernel, rfl⟩
theorem qX12_name_137 : Dq cX12_name 137 (.ireturn) 1 138 := ⟨by decide +kernel, rfl⟩
theorem qX12_name_138 : Dq cX12_name 138 (.aload_n 0) 1 139 := ⟨by decide +kernel, rfl⟩
theorem qX12_name_139 : Dq cX12_name 139 (.invokevirtual 170) 3 142 := ⟨by decide +kernel, rfl⟩
theorem qX12_name_142 : Dq cX12_name 142 (.iconst 0) 1 143 := ⟨by decide +kernel, rfl⟩
theorem qX12_name_143 : Dq cX12_name 143 (.ireturn) 1 144 := ⟨by decide +kernel, rfl⟩
set_option maxRecDepth 100000 in
set_option maxHeartbeats 4000000 in
theorem m_name {G : Glb} {h : AHp} (hm : ShM h) {by' : Nat → Int32} {sz t o i : Nat} (ha : MAt by' sz t o i h) (hw : mT by' sz (pl by' sz i) = 1) {env : Nat → Int32} (he : EnvM h env) : CP G m_X12_name 4 0 0 [.ref 38] h (fun r h' => (¬ nameK by' sz (pl by' sz i) = 0 ∧ r = some (.int (env (tn (-1 - nameK by' sz (pl by' sz i))))) ∧ h = h') ∨ (nameK by' sz (pl by' sz i) = 0 ∧ r = some (.int 0) ∧ stI (stI h 38 28 1) 38 29 (nI (pl by' sz i)) = h')) := by
  suffices key : ∀ P : Option Value → AHp → Prop, (∀ r h', ((¬ nameK by' sz (pl by' sz i) = 0 ∧ r = some (.int (env (tn (-1 - nameK by' sz (pl by' sz i))))) ∧ h = h') ∨ (nameK by' sz (pl by' sz i) = 0 ∧ r = some (.int 0) ∧ stI (stI h 38 28 1) 38 29 (nI (pl by' sz i)) = h')) → P r h') → CP G m_X12_name 4 0 0 [.ref 38] h P from key _ (fun _ _ z => z)
  intro P hP
  refine CP.of (by decide +kernel) (Nat.le_of_ble_eq_true rfl) fun X hX hR hnm => ?_
  show V X G 1 0 0 _ 0 [some (.ref 38)] [] h
  refine v_aload_n hX rfl qX12_name_0 ?_
  refine v_bipush hX lb_121 qX12_name_1 ?_
  refine v_iconst hX li_0 qX12_name_3 ?_
  refine v_iconst hX li_0 qX12_name_4 ?_
  refine v_iconst hX li_0 qX12_name_5 ?_
  refine v_iconst hX li_0 qX12_name_6 ?_
  refine v_iconst hX li_0 qX12_name_7 ?_
  refine v_iconst hX li_0 qX12_name_8 ?_
  refine v_iconst hX li_0 qX12_name_9 ?_
  refine v_callVq hX hR k_X12_176 (hm.kd 38 rfl) (m_isWord (by exact hm) (by exact ha.1) (by exact ha.2) (by exact w_y) (by decide) (by decide)) rfl (Nat.le_of_ble_eq_true rfl) rfl (Nat.le_of_ble_eq_true rfl) ⟨Nat.le_of_ble_eq_true rfl, Nat.le_of_ble_eq_true rfl⟩ qX12_name_10 ?_
  rintro _ _ ⟨rfl, rfl⟩
  first | refine v_if_eqB hX 21 qX12_name_13 rfl (fun q13 => ?_) (fun q13 => ?_) | refine v_if_eq hX 21 qX12_name_13 rfl (fun q13 => ?_) (fun q13 => ?_)
  · skip
    refine v_aload_n hX rfl qX12_name_21 ?_
    refine v_bipush hX lb_120 qX12_name_22 ?_
    refine v_iconst hX li_0 qX12_name_24 ?_
    refine v_iconst hX li_0 qX12_name_25 ?_
    refine v_iconst hX li_0 qX12_name_26 ?_
    refine v_iconst hX li_0 qX12_name_27 ?_
    refine v_iconst hX li_0 qX12_name_28 ?_
    refine v_iconst hX li_0 qX12_name_29 ?_
    refine v_iconst hX li_0 qX12_name_30 ?_
    refine v_callVq hX hR k_X12_176 (hm.kd 38 rfl) (m_isWord (by exact hm) (by exact ha.1) (by exact ha.2) (by exact w_x) (by decide) (by decide)) rfl (Nat.le_of_ble_eq_true rfl) rfl (Nat.le_of_ble_eq_true rfl) ⟨Nat.le_of_ble_eq_true rfl, Nat.le_of_ble_eq_true rfl⟩ qX12_name_31 ?_
    rintro _ _ ⟨rfl, rfl⟩
    first | refine v_if_eqB hX 42 qX12_name_34 rfl (fun q34 => ?_) (fun q34 => ?_) | refine v_if_eq hX 42 qX12_name_34 rfl (fun q34 => ?_) (fun q34 => ?_)
    · skip
      refine v_aload_n hX rfl qX12_name_42 ?_
      refine v_bipush hX lb_100 qX12_name_43 ?_
      refine v_bipush hX lb_101 qX12_name_45 ?_
      refine v_bipush hX lb_112 qX12_name_47 ?_
      refine v_bipush hX lb_116 qX12_name_49 ?_
      refine v_bipush hX lb_104 qX12_name_51 ?_
      refine v_iconst hX li_0 qX12_name_53 ?_
      refine v_iconst hX li_0 qX12_name_54 ?_
      refine v_iconst hX li_0 qX12_name_55 ?_
      refine v_callVq hX hR k_X12_176 (hm.kd 38 rfl) (m_isWord (by exact hm) (by exact ha.1) (by exact ha.2) (by exact w_depth) (by decide) (by decide)) rfl (Nat.le_of_ble_eq_true rfl) rfl (Nat.le_of_ble_eq_true rfl) ⟨Nat.le_of_ble_eq_true rfl, Nat.le_of_ble_eq_true rfl⟩ qX12_name_56 ?_
      rintro _ _ ⟨rfl, rfl⟩
      first | refine v_if_eqB hX 67 qX12_name_59 rfl (fun q59 => ?_) (fun q59 => ?_) | refine v_if_eq hX 67 qX12_name_59 rfl (fun q59 => ?_) (fun q59 => ?_)
      · skip
        refine v_aload_n hX rfl qX12_name_67 ?_
        refine v_bipush hX lb_116 qX12_name_68 ?_
        refine v_bipush hX lb_114 qX12_name_70 ?_
        refine v_bipush hX lb_111 qX12_name_72 ?_
        refine v_bipush hX lb_100 qX12_name_74 ?_
        refine v_iconst hX li_0 qX12_name_76 ?_
        refine v_iconst hX li_0 qX12_name_77 ?_
        refine v_iconst hX li_0 qX12_name_78 ?_
        refine v_iconst hX li_0 qX12_name_79 ?_
        refine v_callVq hX hR k_X12_176 (hm.kd 38 rfl) (m_isWord (by exact hm) (by exact ha.1) (by exact ha.2) (by exact w_trod) (by decide) (by decide)) rfl (Nat.le_of_ble_eq_true rfl) rfl (Nat.le_of_ble_eq_true rfl) ⟨Nat.le_of_ble_eq_true rfl, Nat.le_of_ble_eq_true rfl⟩ qX12_name_80 ?_
        rintro _ _ ⟨rfl, rfl⟩
        first | refine v_if_eqB hX 91 qX12_name_83 rfl (fun q83 => ?_) (fun q83 => ?_) | refine v_if_eq hX 91 qX12_name_83 rfl (fun q83 => ?_) (fun q83 => ?_)
        · skip
          refine v_aload_n hX rfl qX12_name_91 ?_
          refine v_bipush hX lb_104 qX12_name_92 ?_
          refine v_bipush hX lb_111 qX12_name_94 ?_
          refine v_bipush hX lb_117 qX12_name_96 ?_
          refine v_bipush hX lb_114 qX12_name_98 ?_
          refine v_iconst hX li_0 qX12_name_100 ?_
          refine v_iconst hX li_0 qX12_name_101 ?_
          refine v_iconst hX li_0 qX12_name_102 ?_
          refine v_iconst hX li_0 qX12_name_103 ?_
          refine v_callVq hX hR k_X12_176 (hm.kd 38 rfl) (m_isWord (by exact hm) (by exact ha.1) (by exact ha.2) (by exact w_hour) (by decide) (by decide)) rfl (Nat.le_of_ble_eq_true rfl) rfl (Nat.le_of_ble_eq_true rfl) ⟨Nat.le_of_ble_eq_true rfl, Nat.le_of_ble_eq_true rfl⟩ qX12_name_104 ?_
          rintro _ _ ⟨rfl, rfl⟩
          first | refine v_if_eqB hX 115 qX12_name_107 rfl (fun q107 => ?_) (fun q107 => ?_) | refine v_if_eq hX 115 qX12_name_107 rfl (fun q107 => ?_) (fun q107 => ?_)
          · skip
            refine v_aload_n hX rfl qX12_name_115 ?_
            refine v_bipush hX lb_115 qX12_name_116 ?_
            refine v_bipush hX lb_117 qX12_name_118 ?_
            refine v_bipush hX lb_110 qX12_name_120 ?_
            refine v_iconst hX li_0 qX12_name_122 ?_
            refine v_iconst hX li_0 qX12_name_123 ?_
            refine v_iconst hX li_0 qX12_name_124 ?_
            refine v_iconst hX li_0 qX12_name_125 ?_
            refine v_iconst hX li_0 qX12_name_126 ?_
            refine v_callVq hX hR k_X12_176 (hm.kd 38 rfl) (m_isWord (by exact hm) (by exact ha.1) (by exact ha.2) (by exact w_sun) (by decide) (by decide)) rfl (Nat.le_of_ble_eq_true rfl) rfl (Nat.le_of_ble_eq_true rfl) ⟨Nat.le_of_ble_eq_true rfl, Nat.le_of_ble_eq_true rfl⟩ qX12_name_127 ?_
            rintro _ _ ⟨rfl, rfl⟩
            first | refine v_if_eqB hX 138 qX12_name_130 rfl (fun q130 => ?_) (fun q130 => ?_) | refine v_if_eq hX 138 qX12_name_130 rfl (fun q130 => ?_) (fun q130 => ?_)
            · skip
              refine v_aload_n hX rfl qX12_name_138 ?_
              refine v_callVq hX hR k_X12_170 (hm.kd 38 rfl) (m_fail0 (by exact hm) (by exact ha.1.2.2.2.2.2.2) (by exact ha.2.2.2.1)) rfl (Nat.le_of_ble_eq_true rfl) rfl (Nat.le_of_ble_eq_true rfl) ⟨Nat.le_of_ble_eq_true rfl, Nat.le_of_ble_eq_true rfl⟩ qX12_name_139 ?_
              rintro _ _ ⟨rfl, rfl⟩
              refine v_iconst hX li_0 qX12_name_142 ?_
              refine v_ireturn hX qX12_name_143 (hP _ _ ?_)
              refine Or.inr ⟨Classical.byContradiction fun z => ?_, rfl, rfl⟩
              rcases nameK_to z with ⟨-, y⟩ | ⟨-, y⟩ | ⟨-, y⟩ | ⟨-, y⟩ | ⟨-, y⟩ | ⟨-, y⟩
              · exact q13 ⟨hw, y⟩
              · exact q34 ⟨hw, y⟩
              · exact q59 ⟨hw, y⟩
              · exact q83 ⟨hw, y⟩
              · exact q107 ⟨hw, y⟩
              · exact q130 ⟨hw, y⟩
            · skip
              refine v_aload_n hX rfl qX12_name_133 ?_
              refine v_getIv hX g_X12_195 (Or.inl rfl) (hm.kd 38 rfl) (show _ = env 5 from he 5 (by omega)) qX12_name_134 ?_
              refine v_ireturn hX qX12_name_137 (hP _ _ ?_)
              have hn : nameK by' sz (pl by' sz i) = -6 := by rw [nameK_of q130.2]; decide
              exact Or.inl ⟨by rw [hn]; decide, by rw [hn]; rfl, rfl⟩
          · skip
            refine v_aload_n hX rfl qX12_name_110 ?_
            refine v_getIv hX g_X12_192 (Or.inl rfl) (hm.kd 38 rfl) (show _ = env 4 from he 4 (by omega)) qX12_name_111 ?_
            refine v_ireturn hX qX12_name_114 (hP _ _ ?_)
            have hn : nameK by' sz (pl by' sz i) = -5 := by rw [nameK_of q107.2]; decide
            exact Or.inl ⟨by rw [hn]; decide, by rw [hn]; rfl, rfl⟩
        · skip
          refine v_aload_n hX rfl qX12_name_86 ?_
          refine v_getIv hX g_X12_189 (Or.inl rfl) (hm.kd 38 rfl) (show _ = env 3 from he 3 (by omega)) qX12_name_87 ?_
          refine v_ireturn hX qX12_name_90 (hP _ _ ?_)
          have hn : nameK by' sz (pl by' sz i) = -4 := by rw [nameK_of q83.2]; decide
          exact Or.inl ⟨by rw [hn]; decide, by rw [hn]; rfl, rfl⟩
      · skip
        refine v_aload_n hX rfl qX12_name_62 ?_
        refine v_getIv hX g_X12_186 (Or.inl rfl) (hm.kd 38 rfl) (show _ = env 2 from he 2 (by omega)) qX12_name_63 ?_
        refine v_ireturn hX qX12_name_66 (hP _ _ ?_)
        have hn : nameK by' sz (pl by' sz i) = -3 := by rw [nameK_of q59.2]; decide
        exact Or.inl ⟨by rw [hn]; decide, by rw [hn]; rfl, rfl⟩
    · skip
      refine v_aload_n hX rfl qX12_name_37 ?_
      refine v_getIv hX g_X12_183 (Or.inl rfl) (hm.kd 38 rfl) (show _ = env 1 from he 1 (by omega)) qX12_name_38 ?_
      refine v_ireturn hX qX12_name_41 (hP _ _ ?_)
      have hn : nameK by' sz (pl by' sz i) = -2 := by rw [nameK_of q34.2]; decide
      exact Or.inl ⟨by rw [hn]; decide, by rw [hn]; rfl, rfl⟩
  · skip
    refine v_aload_n hX rfl qX12_name_16 ?_
    refine v_getIv hX g_X12_180 (Or.inl rfl) (hm.kd 38 rfl) (show _ = env 0 from he 0 (by omega)) qX12_name_17 ?_
    refine v_ireturn hX qX12_name_20 (hP _ _ ?_)
    have hn : nameK by' sz (pl by' sz i) = -1 := by rw [nameK_of q13.2]; decide
    exact Or.inl ⟨by rw [hn]; decide, by rw [hn]; rfl, rfl⟩
theorem qX12_atom_0 : Dq cX12_atom 0 (.iconst 0) 1 1 := ⟨by decide +kernel, rfl⟩
theorem qX12_atom_1 : Dq cX12_atom 1 (.istore_n 1) 1 2 := ⟨by decide +kernel, rfl⟩
theorem qX12_atom_2 : Dq cX12_atom 2 (.aload_n 0) 1 3 := ⟨by decide +kernel, rfl⟩
theorem qX12_atom_3 : Dq cX12_atom 3 (.bipush 45) 2 5 := ⟨by decide +kernel, rfl⟩
theorem qX12_atom_5 : Dq cX12_atom 5 (.invokevirtual 198) 3 8 := ⟨by decide +kernel, rfl⟩
theorem qX12_atom_8 : Dq cX12_atom 8 (.ifCond .eq 29) 3 11 := ⟨by decide +kernel, rfl⟩
theorem qX12_atom_11 : Dq cX12_atom 11 (.aload_n 0) 1 12 := ⟨by decide +kernel, rfl⟩
theorem qX12_atom_12 : Dq cX12_atom 12 (.invokevirtual 201) 3 15 := ⟨by decide +kernel, rfl⟩
theorem qX12_atom_15 : Dq cX12_atom 15 (.ifCond .eq 146) 3 18 := ⟨by decide +kernel, rfl⟩
theorem qX12_atom_18 : Dq cX12_atom 18 (.aload_n 0) 1 19 := ⟨by decide +kernel, rfl⟩
theorem qX12_atom_19 : Dq cX12_atom 19 (.invokevirtual 205) 3 22 := ⟨by decide +kernel, rfl⟩
theorem qX12_atom_22 : Dq cX12_atom 22 (.ineg) 1 23 := ⟨by decide +kernel, rfl⟩
theorem qX12_atom_23 : Dq cX12_atom 23 (.istore_n 1) 1 24 := ⟨by decide +kernel, rfl⟩
theorem qX12_atom_24 : Dq cX12_atom 24 (.aload_n 0) 1 25 := ⟨by decide +kernel, rfl⟩
theorem qX12_atom_25 : Dq cX12_atom 25 (.dup) 1 26 := ⟨by decide +kernel, rfl⟩
theorem qX12_atom_26 : Dq cX12_atom 26 (.getfield 167) 3 29 := ⟨by decide +kernel, rfl⟩
theorem qX12_atom_29 : Dq cX12_atom 29 (.iconst 1) 1 30 := ⟨by decide +kernel, rfl⟩
theorem qX12_atom_30 : Dq cX12_atom 30 (.isub) 1 31 := ⟨by decide +kernel, rfl⟩
theorem qX12_atom_31 : Dq cX12_atom 31 (.putfield 167) 3 34 := ⟨by decide +kernel, rfl⟩
theorem qX12_atom_34 : Dq cX12_atom 34 (.goto 127) 3 37 := ⟨by decide +kernel, rfl⟩
theorem qX12_atom_37 : Dq cX12_atom 37 (.aload_n 0) 1 38 := ⟨by decide +kernel, rfl⟩
theorem qX12_atom_38 : Dq cX12_atom 38 (.bipush 40) 2 40 := ⟨by decide +kernel, rfl⟩
theorem qX12_atom_40 : Dq cX12_atom 40 (.invokevirtual 198) 3 43 := ⟨by decide +kernel, rfl⟩
theorem qX12_atom_43 : Dq cX12_atom 43 (.ifCond .eq 52) 3 46 := ⟨by decide +kernel, rfl⟩
theorem qX12_atom_46 : Dq cX12_atom 46 (.aload_n 0) 1 47 := ⟨by decide +kernel, rfl⟩
theorem qX12_atom_47 : Dq cX12_atom 47 (.invokevirtual 201) 3 50 := ⟨by decide +kernel, rfl⟩
theorem qX12_atom_50 : Dq cX12_atom 50 (.ifCond .eq 111) 3 53 := ⟨by decide +kernel, rfl⟩
theorem qX12_atom_53 : Dq cX12_atom 53 (.aload_n 0) 1 54 := ⟨by decide +kernel, rfl⟩
theorem qX12_atom_54 : Dq cX12_atom 54 (.invokevirtual 209) 3 57 := ⟨by decide +kernel, rfl⟩
theorem qX12_atom_57 : Dq cX12_atom 57 (.istore_n 1) 1 58 := ⟨by decide +kernel, rfl⟩
theorem qX12_atom_58 : Dq cX12_atom 58 (.aload_n 0) 1 59 := ⟨by decide +kernel, rfl⟩
theorem qX12_atom_59 : Dq cX12_atom 59 (.bipush 41) 2 61 := ⟨by decide +kernel, rfl⟩
theorem qX12_atom_61 : Dq cX12_atom 61 (.invokevirtual 198) 3 64 := ⟨by decide +kernel, rfl⟩
theorem qX12_atom_64 : Dq cX12_atom 64 (.ifCond .ne 7) 3 67 := ⟨by decide +kernel, rfl⟩
theorem qX12_atom_67 : Dq cX12_atom 67 (.aload_n 0) 1 68 := ⟨by decide +kernel, rfl⟩
theorem qX12_atom_68 : Dq cX12_atom 68 (.invokevirtual 170) 3 71 := ⟨by decide +kernel, rfl⟩
theorem qX12_atom_71 : Dq cX12_atom 71 (.aload_n 0) 1 72 := ⟨by decide +kernel, rfl⟩
theorem qX12_atom_72 : Dq cX12_atom 72 (.dup) 1 73 := ⟨by decide +kernel, rfl⟩
theorem qX12_atom_73 : Dq cX12_atom 73 (.getfield 167) 3 76 := ⟨by decide +kernel, rfl⟩
theorem qX12_atom_76 : Dq cX12_atom 76 (.iconst 1) 1 77 := ⟨by decide +kernel, rfl⟩
theorem qX12_atom_77 : Dq cX12_atom 77 (.isub) 1 78 := ⟨by decide +kernel, rfl⟩
theorem qX12_atom_78 : Dq cX12_atom 78 (.putfield 167) 3 81 := ⟨by decide +kernel, rfl⟩
theorem qX12_atom_81 : Dq cX12_atom 81 (.aload_n 0) 1 82 := ⟨by decide +kernel, rfl⟩
theorem qX12_atom_82 : Dq cX12_atom 82 (.getfield 156) 3 85 := ⟨by decide +kernel, rfl⟩
theorem qX12_atom_85 : Dq cX12_atom 85 (.ifCond .ne 76) 3 88 := ⟨by decide +kernel, rfl⟩
theorem qX12_atom_88 : Dq cX12_atom 88 (.aload_n 0) 1 89 := ⟨by decide +kernel, rfl⟩
theorem qX12_atom_89 : Dq cX12_atom 89 (.invokevirtual 173) 3 92 := ⟨by decide +kernel, rfl⟩
theorem qX12_atom_92 : Dq cX12_atom 92 (.goto 69) 3 95 := ⟨by decide +kernel, rfl⟩
theorem qX12_atom_95 : Dq cX12_atom 95 (.aload_n 0) 1 96 := ⟨by decide +kernel, rfl⟩
theorem qX12_atom_96 : Dq cX12_atom 96 (.getfield 156) 3 99 := ⟨by decide +kernel, rfl⟩
theorem qX12_atom_99 : Dq cX12_atom 99 (.ifCond .ne 24) 3 102 := ⟨by decide +kernel, rfl⟩
theorem qX12_atom_102 : Dq cX12_atom 102 (.aload_n 0) 1 103 := ⟨by decide +kernel, rfl⟩
theorem qX12_atom_103 : Dq cX12_atom 103 (.getfield 139) 3 106 := ⟨by decide +kernel, rfl⟩
theorem qX12_atom_106 : Dq cX12_atom 106 (.iconst 2) 1 107 := ⟨by decide +kernel, rfl⟩
theorem qX12_atom_107 : Dq cX12_atom 107 (.if_icmp .ne 16) 3 110 := ⟨by decide +kernel, rfl⟩
theorem qX12_atom_110 : Dq cX12_atom 110 (.aload_n 0) 1 111 := ⟨by decide +kernel, rfl⟩
theorem qX12_atom_111 : Dq cX12_atom 111 (.getfield 150) 3 114 := ⟨by decide +kernel, rfl⟩
theorem qX12_atom_114 : Dq cX12_atom 114 (.l2i) 1 115 := ⟨by decide +kernel, rfl⟩
theorem qX12_atom_115 : Dq cX12_atom 115 (.istore_n 1) 1 116 := ⟨by decide +kernel, rfl⟩
theorem qX12_atom_116 : Dq cX12_atom 116 (.aload_n 0) 1 117 := ⟨by decide +kernel, rfl⟩
theorem qX12_atom_117 : Dq cX12_atom 117 (.invokevirtual 173) 3 120 := ⟨by decide +kernel, rfl⟩
theorem qX12_atom_120 : Dq cX12_atom 120 (.goto 41) 3 123 := ⟨by decide +kernel, rfl⟩
theorem qX12_atom_123 : Dq cX12_atom 123 (.aload_n 0) 1 124 := ⟨by decide +kernel, rfl⟩
theorem qX12_atom_124 : Dq cX12_atom 124 (.getfield 156) 3 127 := ⟨by decide +kernel, rfl⟩
theorem qX12_atom_127 : Dq cX12_atom 127 (.ifCond .ne 30) 3 130 := ⟨by decide +kernel, rfl⟩
theorem qX12_atom_130 : Dq cX12_atom 130 (.aload_n 0) 1 131 := ⟨by decide +kernel, rfl⟩
theorem qX12_atom_131 : Dq cX12_atom 131 (.getfield 139) 3 134 := ⟨by decide +kernel, rfl⟩
theorem qX12_atom_134 : Dq cX12_atom 134 (.iconst 1) 1 135 := ⟨by decide +kernel, rfl⟩
theorem qX12_atom_135 : Dq cX12_atom 135 (.if_icmp .ne 22) 3 138 := ⟨by decide +kernel, rfl⟩
theorem qX12_atom_138 : Dq cX12_atom 138 (.aload_n 0) 1 139 := ⟨by decide +kernel, rfl⟩
theorem qX12_atom_139 : Dq cX12_atom 139 (.invokevirtual 212) 3 142 := ⟨by decide +kernel, rfl⟩
theorem qX12_atom_142 : Dq cX12_atom 142 (.istore_n 1) 1 143 := ⟨by decide +kernel, rfl⟩
theorem qX12_atom_143 : Dq cX12_atom 143 (.aload_n 0) 1 144 := ⟨by decide +kernel, rfl⟩
theorem qX12_atom_144 : Dq cX12_atom 144 (.getfield 156) 3 147 := ⟨by decide +kernel, rfl⟩
theorem qX12_atom_147 : Dq cX12_atom 147 (.ifCond .ne 14) 3 150 := ⟨by decide +kernel, rfl⟩
theorem qX12_atom_150 : Dq cX12_atom 150 (.aload_n 0) 1 151 := ⟨by decide +kernel, rfl⟩
theorem qX12_atom_151 : Dq cX12_atom 151 (.invokevirtual 173) 3 154 := ⟨by decide +kernel, rfl⟩
theorem qX12_atom_154 : Dq cX12_atom 154 (.goto 7) 3 157 := ⟨by decide +kernel, rfl⟩
theorem qX12_atom_157 : Dq cX12_atom 157 (.aload_n 0) 1 158 := ⟨by decide +kernel, rfl⟩
theorem qX12_atom_158 : Dq cX12_atom 158 (.invokevirtual 170) 3 161 := ⟨by decide +kernel, rfl⟩
theorem qX12_atom_161 : Dq cX12_atom 161 (.iload_n 1) 1 162 := ⟨by decide +kernel, rfl⟩
theorem qX12_atom_162 : Dq cX12_atom 162 (.ireturn) 1 163 := ⟨by decide +kernel, rfl⟩
set_option maxRecDepth 100000 in
set_option maxHeartbeats 4000000 in
theorem m_atom {G : Glb} {by' : Nat → Int32} {sz t d o : Nat} (hd : 10 ≤ d) {room : Bool} (hroom : room = true ↔ o < 5) (ho5 : o ≤ 5) {d2 d3 : Nat} (hd2 : d2 ≤ d) (hd3 : d3 ≤ d) {l1 lo : Nat → PR} (h1 : o < 5 → MSub G by' sz t m_X12_atom d2 (o + 1) l1) (h2 : o < 5 → MSub G by' sz t m_X12_either d3 (o + 1) lo) (h : AHp) (i : Nat) (env : Nat → Int32) (hm : ShM h) (ha : MAt by' sz t o i h) (he : EnvM h env) : CP G m_X12_atom (d + 1) 0 0 [.ref 38] h (fun r h' => ∃ σ J x, r = some (.int x) ∧ h' = mkH h σ J ∧ FrE h σ J ∧ PoM by' sz t o env h σ J x (pOne (tkK by' sz) (tkW by' sz) room l1 lo i)) := by
  suffices key : ∀ P : Option Value → AHp → Prop, (∀ r h', (∃ σ J x, r = some (.int x) ∧ h' = mkH h σ J ∧ FrE h σ J ∧ PoM by' sz t o env h σ J x (pOne (tkK by' sz) (tkW by' sz) room l1 lo i)) → P r h') → CP G m_X12_atom (d + 1) 0 0 [.ref 38] h P from key _ (fun _ _ z => z)
  intro P hP
  refine CP.of (by decide +kernel) (Nat.le_of_ble_eq_true rfl) fun X hX hR hnm => ?_
  show V X G 2 0 0 _ 0 [some (.ref 38), none] [] h
  refine v_iconst hX li_0 qX12_atom_0 ?_
  refine v_istore_n hX (Nat.le_of_ble_eq_true rfl) rfl (ls' := [some _, some _]) rfl qX12_atom_1 ?_
  refine v_aload_n hX rfl qX12_atom_2 ?_
  refine v_bipush hX lb_45 qX12_atom_3 ?_
  refine v_callVq hX hR k_X12_198 (hm.kd 38 rfl) (m_sgA (by exact hm) (by exact ha) (s := 45) (by decide)) rfl (by omega) rfl (Nat.le_of_ble_eq_true rfl) ⟨Nat.le_of_ble_eq_true rfl, Nat.le_of_ble_eq_true rfl⟩ qX12_atom_5 ?_
  rintro _ _ ⟨rfl, rfl⟩
  first | refine v_if_eqB hX 37 qX12_atom_8 rfl (fun q8 => ?_) (fun q8 => ?_) | refine v_if_eq hX 37 qX12_atom_8 rfl (fun q8 => ?_) (fun q8 => ?_)
  · skip
    refine v_aload_n hX rfl qX12_atom_37 ?_
    refine v_bipush hX lb_40 qX12_atom_38 ?_
    refine v_callVq hX hR k_X12_198 (hm.kd 38 rfl) (m_sgA (by exact hm) (by exact ha) (s := 40) (by decide)) rfl (by omega) rfl (Nat.le_of_ble_eq_true rfl) ⟨Nat.le_of_ble_eq_true rfl, Nat.le_of_ble_eq_true rfl⟩ qX12_atom_40 ?_
    rintro _ _ ⟨rfl, rfl⟩
    first | refine v_if_eqB hX 95 qX12_atom_43 rfl (fun q43 => ?_) (fun q43 => ?_) | refine v_if_eq hX 95 qX12_atom_43 rfl (fun q43 => ?_) (fun q43 => ?_)
    · skip
      refine v_aload_n hX rfl qX12_atom_95 ?_
      refine v_getIv hX g_X12_156 (Or.inr rfl) (hm.kd 38 rfl) ha.1.2.2.2.2.2.2 qX12_atom_96 ?_
      first | refine v_if_neB hX 123 qX12_atom_99 rfl (fun q99 => ?_) (fun q99 => ?_) | refine v_if_ne hX 123 qX12_atom_99 rfl (fun q99 => ?_) (fun q99 => ?_)
      · exact absurd rfl q99
      · skip
        refine v_aload_n hX rfl qX12_atom_102 ?_
        refine v_getIv hX g_X12_139 (Or.inl rfl) (hm.kd 38 rfl) ha.2.2.1 qX12_atom_103 ?_
        refine v_iconst hX li_2 qX12_atom_106 ?_
        refine v_icmp_ne hX 123 qX12_atom_107 rfl (fun q107 => ?_) (fun q107 => ?_)
        · skip
          refine v_aload_n hX rfl qX12_atom_123 ?_
          refine v_getIv hX g_X12_156 (Or.inr rfl) (hm.kd 38 rfl) ha.1.2.2.2.2.2.2 qX12_atom_124 ?_
          first | refine v_if_neB hX 157 qX12_atom_127 rfl (fun q127 => ?_) (fun q127 => ?_) | refine v_if_ne hX 157 qX12_atom_127 rfl (fun q127 => ?_) (fun q127 => ?_)
          · exact absurd rfl q127
          · skip
            refine v_aload_n hX rfl qX12_atom_130 ?_
            refine v_getIv hX g_X12_139 (Or.inl rfl) (hm.kd 38 rfl) ha.2.2.1 qX12_atom_131 ?_
            refine v_iconst hX li_1 qX12_atom_134 ?_
            refine v_icmp_ne hX 157 qX12_atom_135 rfl (fun q135 => ?_) (fun q135 => ?_)
            · skip
              refine v_aload_n hX rfl qX12_atom_157 ?_
              refine v_callVq hX hR k_X12_170 (hm.kd 38 rfl) (m_fail0 (by exact hm) (by exact ha.1.2.2.2.2.2.2) (by exact ha.2.2.2.1)) rfl (by omega) rfl (Nat.le_of_ble_eq_true rfl) ⟨Nat.le_of_ble_eq_true rfl, Nat.le_of_ble_eq_true rfl⟩ qX12_atom_158 ?_
              rintro _ _ ⟨rfl, rfl⟩
              refine v_iload_n hX rfl qX12_atom_161 ?_
              refine v_ireturn hX qX12_atom_162 (hP _ _ ?_)
              first
              | exact ⟨σ4, J4, _, rfl, rfl, hf4, PoM.of (r := .inr (i + 1, [tkW by' sz i], fun _ => tkW by' sz i)) ⟨rfl, ha4⟩ (by unfold pOne; rw [if_pos hK2])⟩
              | exact ⟨(stI (stI h 38 28 1) 38 29 (nI (pl by' sz i))).1, h.2.2.1, _, rfl, rfl, ⟨fun a k hk => by show hpI (stI _ _ _ _) _ _ = _; rw [hpI_st, if_neg (by omega), hpI_st, if_neg (by omega)], fun _ _ => rfl⟩, PoM.of (r := .inl i) ⟨rfl, rfl⟩ (by unfold pOne; rw [if_neg (fun z => q107 (num_iff.mpr z)), if_neg (fun z => q135 (name_w z)), if_neg q8, if_neg q43])⟩
            · skip
              refine v_aload_n hX rfl qX12_atom_138 ?_
              refine v_callVq hX hR k_X12_212 (hm.kd 38 rfl) (m_name (by exact hm) (by exact ha) (by exact q135) (by exact he)) rfl (by omega) rfl (Nat.le_of_ble_eq_true rfl) ⟨Nat.le_of_ble_eq_true rfl, Nat.le_of_ble_eq_true rfl⟩ qX12_atom_139 ?_
              rintro _ _ (⟨hn, rfl, rfl⟩ | ⟨hn, rfl, rfl⟩)
              · have hK3 : tkK by' sz i = 3 := (word_name q135).1.mpr hn
                refine v_istore_n hX (Nat.le_of_ble_eq_true rfl) rfl (ls' := [some _, some _]) rfl qX12_atom_142 ?_
                refine v_aload_n hX rfl qX12_atom_143 ?_
                refine v_getIv hX g_X12_156 (Or.inr rfl) (hm.kd 38 rfl) ha.1.2.2.2.2.2.2 qX12_atom_144 ?_
                first | refine v_if_neB hX 161 qX12_atom_147 rfl (fun q147 => ?_) (fun q147 => ?_) | refine v_if_ne hX 161 qX12_atom_147 rfl (fun q147 => ?_) (fun q147 => ?_)
                · exact absurd rfl q147
                · skip
                  refine v_aload_n hX rfl qX12_atom_150 ?_
                  refine v_callVq hX hR k_X12_173 (hm.kd 38 rfl) (m_nx (by exact hm) (by exact ha) (by exact (Or.inl q135))) rfl (by omega) rfl (Nat.le_of_ble_eq_true rfl) ⟨Nat.le_of_ble_eq_true rfl, Nat.le_of_ble_eq_true rfl⟩ qX12_atom_151 ?_
                  rintro _ _ ⟨rfl, σ4, J4, rfl, hf4, ha4⟩
                  refine v_goto hX 161 qX12_atom_154 rfl ?_
                  refine v_iload_n hX rfl qX12_atom_161 ?_
                  refine v_ireturn hX qX12_atom_162 (hP _ _ ?_)
                  exact ⟨σ4, J4, _, rfl, rfl, hf4, PoM.of (r := .inr (i + 1, [tkW by' sz i], fun env => env (tn (-1 - tkW by' sz i)))) ⟨by rw [show tkW by' sz i = nameK by' sz (pl by' sz i) from (word_name q135).2.1 hn], ha4⟩ (by unfold pOne; rw [if_neg (by rw [hK3]; decide), if_pos hK3])⟩
              · skip
                refine v_istore_n hX (Nat.le_of_ble_eq_true rfl) rfl (ls' := [some _, some _]) rfl qX12_atom_142 ?_
                refine v_aload_n hX rfl qX12_atom_143 ?_
                refine v_getIv hX g_X12_156 (Or.inr rfl) (hm.kd 38 rfl) (show _ = 1 from rfl) qX12_atom_144 ?_
                first | refine v_if_neB hX 161 qX12_atom_147 rfl (fun q147 => ?_) (fun q147 => ?_) | refine v_if_ne hX 161 qX12_atom_147 rfl (fun q147 => ?_) (fun q147 => ?_)
                · skip
                  refine v_iload_n hX rfl qX12_atom_161 ?_
                  refine v_ireturn hX qX12_atom_162 (hP _ _ ?_)
                  exact ⟨(stI (stI h 38 28 1) 38 29 (nI (pl by' sz i))).1, h.2.2.1, _, rfl, rfl, ⟨fun a k hk => by show hpI (stI _ _ _ _) _ _ = _; rw [hpI_st, if_neg (by omega), hpI_st, if_neg (by omega)], fun _ _ => rfl⟩, PoM.of (r := .inl i) ⟨rfl, rfl⟩ (by unfold pOne; rw [if_neg (fun z => q107 (num_iff.mpr z)), if_neg (fun z => (word_name q135).1.mp z hn), if_neg q8, if_neg q43])⟩
                · exact absurd q147 (by decide)
        · have hK2 : tkK by' sz i = 2 := num_iff.mp q107
          refine v_aload_n hX rfl qX12_atom_110 ?_
          refine v_getJ hX g_X12_150 (hm.kd 38 rfl) qX12_atom_111 ?_
          refine v_eqL (show _ = lN (nvN by' sz (pl by' sz i) (nnd by' sz (pl by' sz i) - pl by' sz i)) from (ha.2.2.2.2.2.1 q107).2) ?_
          refine v_l2i hX qX12_atom_114 ?_
          refine v_eqI (show _ = tkW by' sz i by rw [lN_i]; exact (tK_2 hK2).2.2.2.symm) ?_
          refine v_istore_n hX (Nat.le_of_ble_eq_true rfl) rfl (ls' := [some _, some _]) rfl qX12_atom_115 ?_
          refine v_aload_n hX rfl qX12_atom_116 ?_
          refine v_callVq hX hR k_X12_173 (hm.kd 38 rfl) (m_nx (by exact hm) (by exact ha) (by exact (Or.inr (Or.inl q107)))) rfl (by omega) rfl (Nat.le_of_ble_eq_true rfl) ⟨Nat.le_of_ble_eq_true rfl, Nat.le_of_ble_eq_true rfl⟩ qX12_atom_117 ?_
          rintro _ _ ⟨rfl, σ4, J4, rfl, hf4, ha4⟩
          refine v_goto hX 161 qX12_atom_120 rfl ?_
          refine v_iload_n hX rfl qX12_atom_161 ?_
          refine v_ireturn hX qX12_atom_162 (hP _ _ ?_)
          first
          | exact ⟨σ4, J4, _, rfl, rfl, hf4, PoM.of (r := .inr (i + 1, [tkW by' sz i], fun _ => tkW by' sz i)) ⟨rfl, ha4⟩ (by unfold pOne; rw [if_pos hK2])⟩
          | exact ⟨(stI (stI h 38 28 1) 38 29 (nI (pl by' sz i))).1, h.2.2.1, _, rfl, rfl, ⟨fun a k hk => by show hpI (stI _ _ _ _) _ _ = _; rw [hpI_st, if_neg (by omega), hpI_st, if_neg (by omega)], fun _ _ => rfl⟩, PoM.of (r := .inl i) ⟨rfl, rfl⟩ (by unfold pOne; rw [if_neg (fun z => q107 (num_iff.mpr z)), if_neg (fun z => q135 (name_w z)), if_neg q8, if_neg q43])⟩
    · have hK : tkK by' sz i = 40 := q43
      refine v_aload_n hX rfl qX12_atom_46 ?_
      refine v_callVq hX hR k_X12_201 (hm.kd 38 rfl) (m_opens (by exact hm) (by exact ha) (by exact ho5) (by exact (Or.inr (Or.inr (MAt.sg3 (by decide) hK))))) rfl (by omega) rfl (Nat.le_of_ble_eq_true rfl) ⟨Nat.le_of_ble_eq_true rfl, Nat.le_of_ble_eq_true rfl⟩ qX12_atom_47 ?_
      rintro _ _ (⟨hr, rfl, σ2, J2, rfl, hf2, ha2⟩ | ⟨hr, rfl, rfl⟩)
      · have he2 := hf2.env he
        first | refine v_if_eqB hX 161 qX12_atom_50 rfl (fun q50 => ?_) (fun q50 => ?_) | refine v_if_eq hX 161 qX12_atom_50 rfl (fun q50 => ?_) (fun q50 => ?_)
        · exact absurd q50 (by decide)
        · skip
          refine v_aload_n hX rfl qX12_atom_53 ?_
          refine v_callVq hX hR k_X12_209 (hm.kd 38 rfl) ((h2 hr) _ (by exact (i + 1)) (by exact env) (by exact hm) (by exact ha2) (by exact he2)) rfl (by omega) rfl (Nat.le_of_ble_eq_true rfl) ⟨Nat.le_of_ble_eq_true rfl, Nat.le_of_ble_eq_true rfl⟩ qX12_atom_54 ?_
          rintro _ _ ⟨σ3, J3, x3, rfl, rfl, hf3, hp3⟩
          refine v_istore_n hX (Nat.le_of_ble_eq_true rfl) rfl (ls' := [some _, some _]) rfl qX12_atom_57 ?_
          rcases e3 : lo (i + 1) with g | ⟨j3, cs3, v3⟩
          · rw [e3] at hp3
            refine v_aload_n hX rfl qX12_atom_58 ?_
            refine v_bipush hX lb_41 qX12_atom_59 ?_
            refine v_callVq hX hR k_X12_198 (hm.kd 38 rfl) (m_sgB (by exact hm) (by exact hp3.1) (by exact 41)) rfl (by omega) rfl (Nat.le_of_ble_eq_true rfl) ⟨Nat.le_of_ble_eq_true rfl, Nat.le_of_ble_eq_true rfl⟩ qX12_atom_61 ?_
            rintro _ _ ⟨rfl, rfl⟩
            first | refine v_if_neB hX 71 qX12_atom_64 rfl (fun q64 => ?_) (fun q64 => ?_) | refine v_if_ne hX 71 qX12_atom_64 rfl (fun q64 => ?_) (fun q64 => ?_)
            · exact absurd rfl q64
            · skip
              refine v_aload_n hX rfl qX12_atom_67 ?_
              refine v_callVq hX hR k_X12_170 (hm.kd 38 rfl) (m_fail1 (by exact hm) (by exact hp3.1)) rfl (by omega) rfl (Nat.le_of_ble_eq_true rfl) ⟨Nat.le_of_ble_eq_true rfl, Nat.le_of_ble_eq_true rfl⟩ qX12_atom_68 ?_
              rintro _ _ ⟨rfl, rfl⟩
              refine v_aload_n hX rfl qX12_atom_71 ?_
              refine v_dup hX rfl qX12_atom_72 ?_
              refine v_getI hX g_X12_167 (Or.inl rfl) (hm.kd 38 rfl) qX12_atom_73 ?_
              refine v_iconst hX li_1 qX12_atom_76 ?_
              refine v_isub hX qX12_atom_77 ?_
              refine v_putI hX p_X12_167 (hm.kd 38 rfl) (Or.inl rfl) qX12_atom_78 ?_
              refine v_aload_n hX rfl qX12_atom_81 ?_
              refine v_getIv hX g_X12_156 (Or.inr rfl) (hm.kd 38 rfl) (show _ = 1 from hp3.1) qX12_atom_82 ?_
              first | refine v_if_neB hX 161 qX12_atom_85 rfl (fun q85 => ?_) (fun q85 => ?_) | refine v_if_ne hX 161 qX12_atom_85 rfl (fun q85 => ?_) (fun q85 => ?_)
              · skip
                refine v_iload_n hX rfl qX12_atom_161 ?_
                refine v_ireturn hX qX12_atom_162 (hP _ _ ?_)
                exact ⟨(stI (mkH h σ3 J3) 38 27 (hpI (mkH h σ3 J3) 38 27 - 1)).1, J3, _, rfl, rfl, ⟨fun a k hk => by show hpI (stI _ _ _ _) _ _ = _; rw [hpI_st, if_neg (by omega)]; exact (hf2.tr hf3).1 a k hk, (hf2.tr hf3).2⟩, PoM.of (r := .inl g) hp3 (by unfold pOne; rw [if_neg (by rw [hK]; decide), if_neg (by rw [hK]; decide), if_neg (by rw [hK]; decide), if_pos hK, hroom.mpr hr, e3]; rfl)⟩
              · exact absurd q85 (by decide)
          · rw [e3] at hp3
            obtain ⟨rfl, ha3⟩ := hp3
            have hbr : pOne (tkK by' sz) (tkW by' sz) room l1 lo i = if tkK by' sz j3 = 41 then .inr (j3 + 1, cs3, v3) else .inl j3 := by unfold pOne; rw [if_neg (by rw [hK]; decide), if_neg (by rw [hK]; decide), if_neg (by rw [hK]; decide), if_pos hK, hroom.mpr hr, e3]; rfl
            refine v_aload_n hX rfl qX12_atom_58 ?_
            refine v_bipush hX lb_41 qX12_atom_59 ?_
            refine v_callVq hX hR k_X12_198 (hm.kd 38 rfl) (m_sgA (by exact hm) (by exact ha3) (s := 41) (by decide)) rfl (by omega) rfl (Nat.le_of_ble_eq_true rfl) ⟨Nat.le_of_ble_eq_true rfl, Nat.le_of_ble_eq_true rfl⟩ qX12_atom_61 ?_
            rintro _ _ ⟨rfl, rfl⟩
            first | refine v_if_neB hX 71 qX12_atom_64 rfl (fun q64 => ?_) (fun q64 => ?_) | refine v_if_ne hX 71 qX12_atom_64 rfl (fun q64 => ?_) (fun q64 => ?_)
            · skip
              refine v_aload_n hX rfl qX12_atom_71 ?_
              refine v_dup hX rfl qX12_atom_72 ?_
              refine v_getIv hX g_X12_167 (Or.inl rfl) (hm.kd 38 rfl) (show _ = nI (o + 1) from ha3.1.2.2.2.2.2.1) qX12_atom_73 ?_
              refine v_iconst hX li_1 qX12_atom_76 ?_
              refine v_isub hX qX12_atom_77 ?_
              refine v_eqI (nI_pred o) ?_
              refine v_putI hX p_X12_167 (hm.kd 38 rfl) (Or.inl rfl) qX12_atom_78 ?_
              refine v_aload_n hX rfl qX12_atom_81 ?_
              refine v_getIv hX g_X12_156 (Or.inr rfl) (hm.kd 38 rfl) (show _ = 0 from ha3.1.2.2.2.2.2.2) qX12_atom_82 ?_
              first | refine v_if_neB hX 161 qX12_atom_85 rfl (fun q85 => ?_) (fun q85 => ?_) | refine v_if_ne hX 161 qX12_atom_85 rfl (fun q85 => ?_) (fun q85 => ?_)
              · exact absurd rfl q85
              · skip
                refine v_aload_n hX rfl qX12_atom_88 ?_
                refine v_callVq hX hR k_X12_173 (hm.kd 38 rfl) (m_nx (by exact hm) (by exact (ha3.opn o)) (by exact (Or.inr (Or.inr (MAt.sg3 (by decide) q64))))) rfl (by omega) rfl (Nat.le_of_ble_eq_true rfl) ⟨Nat.le_of_ble_eq_true rfl, Nat.le_of_ble_eq_true rfl⟩ qX12_atom_89 ?_
                rintro _ _ ⟨rfl, σ4, J4, rfl, hf4, ha4⟩
                refine v_goto hX 161 qX12_atom_92 rfl ?_
                refine v_iload_n hX rfl qX12_atom_161 ?_
                refine v_ireturn hX qX12_atom_162 (hP _ _ ?_)
                have f3 : FrE h (stI (mkH h σ3 J3) 38 27 (nI o)).1 J3 := ⟨fun a k hk => by show hpI (stI _ _ _ _) _ _ = _; rw [hpI_st, if_neg (by omega)]; exact (hf2.tr hf3).1 a k hk, (hf2.tr hf3).2⟩
                exact ⟨σ4, J4, _, rfl, rfl, FrE.tr f3 hf4, PoM.of (r := .inr (j3 + 1, cs3, v3)) ⟨rfl, ha4⟩ (hbr.trans (if_pos q64))⟩
            · skip
              refine v_aload_n hX rfl qX12_atom_67 ?_
              refine v_callVq hX hR k_X12_170 (hm.kd 38 rfl) (m_fail0 (by exact hm) (by exact ha3.1.2.2.2.2.2.2) (by exact ha3.2.2.2.1)) rfl (by omega) rfl (Nat.le_of_ble_eq_true rfl) ⟨Nat.le_of_ble_eq_true rfl, Nat.le_of_ble_eq_true rfl⟩ qX12_atom_68 ?_
              rintro _ _ ⟨rfl, rfl⟩
              refine v_aload_n hX rfl qX12_atom_71 ?_
              refine v_dup hX rfl qX12_atom_72 ?_
              refine v_getIv hX g_X12_167 (Or.inl rfl) (hm.kd 38 rfl) (show _ = nI (o + 1) from ha3.1.2.2.2.2.2.1) qX12_atom_73 ?_
              refine v_iconst hX li_1 qX12_atom_76 ?_
              refine v_isub hX qX12_atom_77 ?_
              refine v_eqI (nI_pred o) ?_
              refine v_putI hX p_X12_167 (hm.kd 38 rfl) (Or.inl rfl) qX12_atom_78 ?_
              refine v_aload_n hX rfl qX12_atom_81 ?_
              refine v_getIv hX g_X12_156 (Or.inr rfl) (hm.kd 38 rfl) (show _ = 1 from rfl) qX12_atom_82 ?_
              first | refine v_if_neB hX 161 qX12_atom_85 rfl (fun q85 => ?_) (fun q85 => ?_) | refine v_if_ne hX 161 qX12_atom_85 rfl (fun q85 => ?_) (fun q85 => ?_)
              · skip
                refine v_iload_n hX rfl qX12_atom_161 ?_
                refine v_ireturn hX qX12_atom_162 (hP _ _ ?_)
                exact ⟨(stI (stI (stI (mkH h σ3 J3) 38 28 1) 38 29 (nI (pl by' sz j3))) 38 27 (nI o)).1, J3, _, rfl, rfl, ⟨fun a k hk => by show hpI (stI _ _ _ _) _ _ = _; rw [hpI_st, if_neg (by omega), hpI_st, if_neg (by omega), hpI_st, if_neg (by omega)]; exact (hf2.tr hf3).1 a k hk, (hf2.tr hf3).2⟩, PoM.of (r := .inl j3) ⟨rfl, rfl⟩ (hbr.trans (if_neg q64))⟩
              · exact absurd q85 (by decide)
      · skip
        first | refine v_if_eqB hX 161 qX12_atom_50 rfl (fun q50 => ?_) (fun q50 => ?_) | refine v_if_eq hX 161 qX12_atom_50 rfl (fun q50 => ?_) (fun q50 => ?_)
        · skip
          refine v_iload_n hX rfl qX12_atom_161 ?_
          refine v_ireturn hX qX12_atom_162 (hP _ _ ?_)
          exact ⟨(stI (stI h 38 28 1) 38 29 (nI (pl by' sz i))).1, h.2.2.1, 0, rfl, rfl, ⟨fun a k hk => by show hpI (stI _ _ _ _) _ _ = _; rw [hpI_st, if_neg (by omega), hpI_st, if_neg (by omega)], fun _ _ => rfl⟩, PoM.of (r := .inl i) ⟨rfl, rfl⟩ (by unfold pOne; rw [if_neg (by rw [hK]; decide), if_neg (by rw [hK]; decide), if_neg (by rw [hK]; decide), if_pos hK, Bool.eq_false_iff.mpr (fun z => hr (hroom.mp z))]; rfl)⟩
        · exact absurd rfl q50
  · have hK : tkK by' sz i = 45 := q8
    refine v_aload_n hX rfl qX12_atom_11 ?_
    refine v_callVq hX hR k_X12_201 (hm.kd 38 rfl) (m_opens (by exact hm) (by exact ha) (by exact ho5) (by exact (Or.inr (Or.inr (MAt.sg3 (by decide) hK))))) rfl (by omega) rfl (Nat.le_of_ble_eq_true rfl) ⟨Nat.le_of_ble_eq_true rfl, Nat.le_of_ble_eq_true rfl⟩ qX12_atom_12 ?_
    rintro _ _ (⟨hr, rfl, σ2, J2, rfl, hf2, ha2⟩ | ⟨hr, rfl, rfl⟩)
    · have he2 := hf2.env he
      first | refine v_if_eqB hX 161 qX12_atom_15 rfl (fun q15 => ?_) (fun q15 => ?_) | refine v_if_eq hX 161 qX12_atom_15 rfl (fun q15 => ?_) (fun q15 => ?_)
      · exact absurd q15 (by decide)
      · skip
        refine v_aload_n hX rfl qX12_atom_18 ?_
        refine v_callVq hX hR k_X12_205 (hm.kd 38 rfl) ((h1 hr) _ (by exact (i + 1)) (by exact env) (by exact hm) (by exact ha2) (by exact he2)) rfl (by omega) rfl (Nat.le_of_ble_eq_true rfl) ⟨Nat.le_of_ble_eq_true rfl, Nat.le_of_ble_eq_true rfl⟩ qX12_atom_19 ?_
        rintro _ _ ⟨σ3, J3, x3, rfl, rfl, hf3, hp3⟩
        rcases e3 : l1 (i + 1) with g | ⟨j3, cs3, v3⟩
        · rw [e3] at hp3
          refine v_ineg hX qX12_atom_22 ?_
          refine v_istore_n hX (Nat.le_of_ble_eq_true rfl) rfl (ls' := [some _, some _]) rfl qX12_atom_23 ?_
          refine v_aload_n hX rfl qX12_atom_24 ?_
          refine v_dup hX rfl qX12_atom_25 ?_
          refine v_getI hX g_X12_167 (Or.inl rfl) (hm.kd 38 rfl) qX12_atom_26 ?_
          refine v_iconst hX li_1 qX12_atom_29 ?_
          refine v_isub hX qX12_atom_30 ?_
          refine v_putI hX p_X12_167 (hm.kd 38 rfl) (Or.inl rfl) qX12_atom_31 ?_
          refine v_goto hX 161 qX12_atom_34 rfl ?_
          refine v_iload_n hX rfl qX12_atom_161 ?_
          refine v_ireturn hX qX12_atom_162 (hP _ _ ?_)
          exact ⟨(stI (mkH h σ3 J3) 38 27 (hpI (mkH h σ3 J3) 38 27 - 1)).1, J3, _, rfl, rfl, ⟨fun a k hk => by show hpI (stI _ _ _ _) _ _ = _; rw [hpI_st, if_neg (by omega)]; exact (hf2.tr hf3).1 a k hk, (hf2.tr hf3).2⟩, PoM.of (r := .inl g) hp3 (by unfold pOne; rw [if_neg (by rw [hK]; decide), if_neg (by rw [hK]; decide), if_pos hK, hroom.mpr hr, e3]; rfl)⟩
        · rw [e3] at hp3
          obtain ⟨rfl, ha3⟩ := hp3
          refine v_ineg hX qX12_atom_22 ?_
          refine v_istore_n hX (Nat.le_of_ble_eq_true rfl) rfl (ls' := [some _, some _]) rfl qX12_atom_23 ?_
          refine v_aload_n hX rfl qX12_atom_24 ?_
          refine v_dup hX rfl qX12_atom_25 ?_
          refine v_getIv hX g_X12_167 (Or.inl rfl) (hm.kd 38 rfl) (show _ = nI (o + 1) from ha3.1.2.2.2.2.2.1) qX12_atom_26 ?_
          refine v_iconst hX li_1 qX12_atom_29 ?_
          refine v_isub hX qX12_atom_30 ?_
          refine v_eqI (nI_pred o) ?_
          refine v_putI hX p_X12_167 (hm.kd 38 rfl) (Or.inl rfl) qX12_atom_31 ?_
          refine v_goto hX 161 qX12_atom_34 rfl ?_
          refine v_iload_n hX rfl qX12_atom_161 ?_
          refine v_ireturn hX qX12_atom_162 (hP _ _ ?_)
          exact ⟨(stI (mkH h σ3 J3) 38 27 (nI o)).1, J3, _, rfl, rfl, ⟨fun a k hk => by show hpI (stI _ _ _ _) _ _ = _; rw [hpI_st, if_neg (by omega)]; exact (hf2.tr hf3).1 a k hk, (hf2.tr hf3).2⟩, PoM.of (r := .inr (j3, cs3 ++ [-15], fun env => - v3 env)) ⟨rfl, ha3.opn o⟩ (by unfold pOne; rw [if_neg (by rw [hK]; decide), if_neg (by rw [hK]; decide), if_pos hK, hroom.mpr hr, e3]; rfl)⟩
    · skip
      first | refine v_if_eqB hX 161 qX12_atom_15 rfl (fun q15 => ?_) (fun q15 => ?_) | refine v_if_eq hX 161 qX12_atom_15 rfl (fun q15 => ?_) (fun q15 => ?_)
      · skip
        refine v_iload_n hX rfl qX12_atom_161 ?_
        refine v_ireturn hX qX12_atom_162 (hP _ _ ?_)
        exact ⟨(stI (stI h 38 28 1) 38 29 (nI (pl by' sz i))).1, h.2.2.1, 0, rfl, rfl, ⟨fun a k hk => by show hpI (stI _ _ _ _) _ _ = _; rw [hpI_st, if_neg (by omega), hpI_st, if_neg (by omega)], fun _ _ => rfl⟩, PoM.of (r := .inl i) ⟨rfl, rfl⟩ (by unfold pOne; rw [if_neg (by rw [hK]; decide), if_neg (by rw [hK]; decide), if_pos hK, Bool.eq_false_iff.mpr (fun z => hr (hroom.mp z))]; rfl)⟩
      · exact absurd rfl q15
