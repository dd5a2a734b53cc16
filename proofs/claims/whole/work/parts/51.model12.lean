/-! the reference: judges, judge, found -/
abbrev jqE (E : Sst) (j : Nat) : Nat → Bch := jbs (sT E) (sK E) (sN E) (sI' E j) (sB E)
/-- what judges knows behind c rows -/
def JdI (h : AHp) (E : Sst) (j c : Nat) (σ : Nat → Nat → Int32) (J : Nat → Nat → Int64) : Prop := MW (mkH h σ J) (setB E (jqE E j c)) ∧ FrZ h σ ∧ Was σ (sB E) ∧ σ 38 43 = sumN (jgE E j) c ∧ ∀ k, k < c → jbE E j k = false
theorem JdI.R {h : AHp} {E : Sst} {j c : Nat} {σ σ1 : Nat → Nat → Int32} {J J1 : Nat → Nat → Int64} (hp : JdI h E j c σ J) (hf : FrR (mkH h σ J) σ1 J1) : JdI h E j c σ1 J1 := by
  obtain ⟨h1, h2, h3, h4, h5⟩ := hp
  exact ⟨h1.fr hf, h2.tr hf.z, h3.z (h := mkH h σ J) (fun a k ha => hf.1 a k (by omega)), (hf.1 38 43 (by omega)).trans h4, h5⟩
theorem jb_good {E : Sst} {j i l w : Nat} (hl : l < sM E) (hm : sM E ≤ 6) (hw : w < 48) (el : sI' E j (2 * i) = nI l) (ew : sI' E j (2 * i + 1) = nI w) (hse : seB (sT E) (jqE E j i) w = 0) : jbE E j i = false := by
  show (!jOK (sT E) (sM E) (jqE E j i) (sI' E j (2 * i)) (sI' E j (2 * i + 1))) = false
  rw [el, ew]
  unfold jOK
  rw [decide_eq_true (show 0 ≤ nI l ∧ nI l < nI (sM E) from ⟨nI_pos' (by omega), nI_lt hl (by omega)⟩), decide_eq_true (isCn hw), tn_nI (by omega), decide_eq_true hse]
  rfl
theorem jb_bad1 {E : Sst} {j i : Nat} (h : ¬ (0 ≤ sI' E j (2 * i) ∧ sI' E j (2 * i) < nI (sM E))) : jbE E j i = true := by
  show (!jOK (sT E) (sM E) (jqE E j i) (sI' E j (2 * i)) (sI' E j (2 * i + 1))) = true
  unfold jOK
  rw [decide_eq_false h]
  rfl
theorem jb_bad2 {E : Sst} {j i : Nat} (h : ¬ isC (sI' E j (2 * i + 1))) : jbE E j i = true := by
  show (!jOK (sT E) (sM E) (jqE E j i) (sI' E j (2 * i)) (sI' E j (2 * i + 1))) = true
  unfold jOK
  rw [decide_eq_false h]
  simp
theorem jb_bad3 {E : Sst} {j i w : Nat} (hw : w < 48) (ew : sI' E j (2 * i + 1) = nI w) (hse : ¬ seB (sT E) (jqE E j i) w = 0) : jbE E j i = true := by
  show (!jOK (sT E) (sM E) (jqE E j i) (sI' E j (2 * i)) (sI' E j (2 * i + 1))) = true
  rw [ew]
  unfold jOK
  rw [tn_nI (by omega), decide_eq_false hse]
  simp
theorem JdI.next {h : AHp} {E : Sst} {j i l w : Nat} {σ σ1 σ2 σ3 : Nat → Nat → Int32} {J J1 J2 J3 : Nat → Nat → Int64} (hp : JdI h E j i σ J) (hl : l < sM E) (hm : sM E ≤ 6) (hw : w < 48) (el : sI' E j (2 * i) = nI l) (ew : sI' E j (2 * i + 1) = nI w) (hse : seB (sT E) (jqE E j i) w = 0) (hf1 : FrR (mkH h σ J) σ1 J1) (hf2 : FrR (mkH h σ1 J1) σ2 J2) (hf3 : FrY (stI (mkH h σ2 J2) 38 43 (sumN (jgE E j) i + gainB (sT E) (jqE E j i) (sK E l) (sN E l) w)) σ3) (hmw : MW (mkH h σ3 J3) (setB E (lookB (sT E) (jqE E j i) (sK E l) (sN E l) w))) : JdI h E j (i + 1) σ3 J3 := by
  obtain ⟨h1, h2, h3, h4, h5⟩ := hp
  have e3 : ∀ a k, ¬ (a = 42 ∨ a = 43) → ¬ (a = 46 ∨ a = 47) → ¬ (a = 38 ∧ (k = 10 ∨ k = 11 ∨ (15 ≤ k ∧ k ≤ 32) ∨ k = 43)) → σ3 a k = σ a k := fun a k a1 a2 a3 => by
    rw [hf3 a k a1 a2 (by omega), hpI_st, if_neg (by omega)]
    exact (hf2.1 a k (by omega)).trans (hf1.1 a k (by omega))
  have es : jqE E j (i + 1) = lookB (sT E) (jqE E j i) (sK E l) (sN E l) w := by
    show lookB _ _ (sK E (tn (sI' E j (2 * i)))) (sN E (tn (sI' E j (2 * i)))) (tn (sI' E j (2 * i + 1))) = _
    rw [el, ew, tn_nI (by omega), tn_nI (by omega)]
  have eg : jgE E j i = gainB (sT E) (jqE E j i) (sK E l) (sN E l) w := by
    show gainB _ _ (sK E (tn (sI' E j (2 * i)))) (sN E (tn (sI' E j (2 * i)))) (tn (sI' E j (2 * i + 1))) = _
    rw [el, ew, tn_nI (by omega), tn_nI (by omega)]
  refine ⟨by rw [es]; exact hmw, fun a k a1 a2 a3 => (e3 a k a1 (by omega) (by omega)).trans (h2 a k a1 a2 a3), h3.z (h := mkH h σ J) (fun a k ha => e3 a k (by omega) (by omega) (by omega)), ?_, fun k hk => ?_⟩
  · rw [hf3 38 43 (by omega) (by omega) (by omega), hpI_st, if_pos ⟨rfl, rfl⟩]
    show _ = sumN (jgE E j) i + jgE E j i
    rw [eg]
  · by_cases e : k = i
    · subst e; exact jb_good hl hm hw el ew hse
    · exact h5 k (by omega)
theorem fx_ge {p : Nat → Bool} : ∀ n i, i + n < 2 ^ 31 → -1 ≤ fx p n i := by
  intro n
  induction n with
  | zero => intro i _; exact Int32.le_refl _
  | succ n ih =>
    intro i h
    unfold fx
    split
    · exact Int32.le_of_lt (nI_gt1 (by omega))
    · exact ih (i + 1) (by omega)
abbrev jCnd (E : Sst) (s : Int32) : Prop := (0 ≤ s ∧ s ≤ 3) ∧ ¬ sS E (tn s) = -1 ∧ rmI (nI (sL E (tn s))) 2 = 0
theorem judge_c {E : Sst} (hok : EOK E) {s : Int32} : -1 ≤ judgeI E s ↔ jCnd E s := by
  have e1 : (-1 : Int32).toInt = -1 := rfl
  have e2 : (-2 : Int32).toInt = -2 := rfl
  have e11 : (-11 : Int32).toInt = -11 := rfl
  unfold judgeI
  by_cases h1 : 0 ≤ s ∧ s ≤ 3
  · rw [if_pos h1]
    by_cases h2 : sS E (tn s) = -1
    · rw [if_pos h2]
      exact ⟨fun z => absurd (leI.mp z) (by omega), fun z => absurd h2 z.2.1⟩
    · rw [if_neg h2]
      by_cases h3 : rmI (nI (sL E (tn s))) 2 = 0
      · rw [if_neg (fun z => z h3)]
        obtain ⟨j, hj, rfl⟩ := rng_ex 3 (by omega) h1
        have h40 := (hok.2.2.2.2.2.2.2 j (by omega)).1
        have h40 : sL E (tn (nI j)) ≤ 40 := by rw [tn_nI (by omega)]; exact h40
        exact ⟨fun _ => ⟨h1, h2, h3⟩, fun _ => fx_ge _ _ (by omega)⟩
      · rw [if_pos h3]
        exact ⟨fun z => absurd (leI.mp z) (by omega), fun z => absurd z.2.2 h3⟩
  · rw [if_neg h1]
    exact ⟨fun z => absurd (leI.mp z) (by omega), fun z => absurd z.1 h1⟩
theorem rm2 {s : Nat} (hs : s < 2 ^ 31) : rmI (nI s) 2 = nI (s % 2) := pk_rem (d := 2) hs (by omega) (by omega)
theorem qX12_judges_0 : Dq cX12_judges 0 (.iload_n 1) 1 1 := ⟨by decide +kernel, rfl⟩
theorem qX12_judges_1 : Dq cX12_judges 1 (.invokestatic 333) 3 4 := ⟨by decide +kernel, rfl⟩
theorem qX12_judges_4 : Dq cX12_judges 4 (.ifCond .ne 6) 3 7 := ⟨by decide +kernel, rfl⟩
theorem qX12_judges_7 : Dq cX12_judges 7 (.bipush (-2)) 2 9 := ⟨by decide +kernel, rfl⟩
theorem qX12_judges_9 : Dq cX12_judges 9 (.ireturn) 1 10 := ⟨by decide +kernel, rfl⟩
theorem qX12_judges_10 : Dq cX12_judges 10 (.aload_n 0) 1 11 := ⟨by decide +kernel, rfl⟩
theorem qX12_judges_11 : Dq cX12_judges 11 (.getfield 65) 3 14 := ⟨by decide +kernel, rfl⟩
theorem qX12_judges_14 : Dq cX12_judges 14 (.iload_n 1) 1 15 := ⟨by decide +kernel, rfl⟩
theorem qX12_judges_15 : Dq cX12_judges 15 (.baload) 1 16 := ⟨by decide +kernel, rfl⟩
theorem qX12_judges_16 : Dq cX12_judges 16 (.ifCond .ne 6) 3 19 := ⟨by decide +kernel, rfl⟩
theorem qX12_judges_19 : Dq cX12_judges 19 (.bipush (-11)) 2 21 := ⟨by decide +kernel, rfl⟩
theorem qX12_judges_21 : Dq cX12_judges 21 (.ireturn) 1 22 := ⟨by decide +kernel, rfl⟩
theorem qX12_judges_22 : Dq cX12_judges 22 (.aload_n 0) 1 23 := ⟨by decide +kernel, rfl⟩
theorem qX12_judges_23 : Dq cX12_judges 23 (.getfield 72) 3 26 := ⟨by decide +kernel, rfl⟩
theorem qX12_judges_26 : Dq cX12_judges 26 (.iload_n 1) 1 27 := ⟨by decide +kernel, rfl⟩
theorem qX12_judges_27 : Dq cX12_judges 27 (.iaload) 1 28 := ⟨by decide +kernel, rfl⟩
theorem qX12_judges_28 : Dq cX12_judges 28 (.iconst 2) 1 29 := ⟨by decide +kernel, rfl⟩
theorem qX12_judges_29 : Dq cX12_judges 29 (.irem) 1 30 := ⟨by decide +kernel, rfl⟩
theorem qX12_judges_30 : Dq cX12_judges 30 (.iconst 1) 1 31 := ⟨by decide +kernel, rfl⟩
theorem qX12_judges_31 : Dq cX12_judges 31 (.if_icmp .ne 6) 3 34 := ⟨by decide +kernel, rfl⟩
theorem qX12_judges_34 : Dq cX12_judges 34 (.bipush (-2)) 2 36 := ⟨by decide +kernel, rfl⟩
theorem qX12_judges_36 : Dq cX12_judges 36 (.ireturn) 1 37 := ⟨by decide +kernel, rfl⟩
theorem qX12_judges_37 : Dq cX12_judges 37 (.aload_n 0) 1 38 := ⟨by decide +kernel, rfl⟩
theorem qX12_judges_38 : Dq cX12_judges 38 (.invokevirtual 300) 3 41 := ⟨by decide +kernel, rfl⟩
theorem qX12_judges_41 : Dq cX12_judges 41 (.iconst (-1)) 1 42 := ⟨by decide +kernel, rfl⟩
theorem qX12_judges_42 : Dq cX12_judges 42 (.istore_n 2) 1 43 := ⟨by decide +kernel, rfl⟩
theorem qX12_judges_43 : Dq cX12_judges 43 (.aload_n 0) 1 44 := ⟨by decide +kernel, rfl⟩
theorem qX12_judges_44 : Dq cX12_judges 44 (.iconst 0) 1 45 := ⟨by decide +kernel, rfl⟩
theorem qX12_judges_45 : Dq cX12_judges 45 (.putfield 343) 3 48 := ⟨by decide +kernel, rfl⟩
theorem qX12_judges_48 : Dq cX12_judges 48 (.iconst 0) 1 49 := ⟨by decide +kernel, rfl⟩
theorem qX12_judges_49 : Dq cX12_judges 49 (.istore_n 3) 1 50 := ⟨by decide +kernel, rfl⟩
theorem qX12_judges_50 : Dq cX12_judges 50 (.iload_n 3) 1 51 := ⟨by decide +kernel, rfl⟩
theorem qX12_judges_51 : Dq cX12_judges 51 (.aload_n 0) 1 52 := ⟨by decide +kernel, rfl⟩
theorem qX12_judges_52 : Dq cX12_judges 52 (.getfield 72) 3 55 := ⟨by decide +kernel, rfl⟩
theorem qX12_judges_55 : Dq cX12_judges 55 (.iload_n 1) 1 56 := ⟨by decide +kernel, rfl⟩
theorem qX12_judges_56 : Dq cX12_judges 56 (.iaload) 1 57 := ⟨by decide +kernel, rfl⟩
theorem qX12_judges_57 : Dq cX12_judges 57 (.iconst 2) 1 58 := ⟨by decide +kernel, rfl⟩
theorem qX12_judges_58 : Dq cX12_judges 58 (.idiv) 1 59 := ⟨by decide +kernel, rfl⟩
theorem qX12_judges_59 : Dq cX12_judges 59 (.if_icmp .ge 102) 3 62 := ⟨by decide +kernel, rfl⟩
theorem qX12_judges_62 : Dq cX12_judges 62 (.iload_n 2) 1 63 := ⟨by decide +kernel, rfl⟩
theorem qX12_judges_63 : Dq cX12_judges 63 (.iconst (-1)) 1 64 := ⟨by decide +kernel, rfl⟩
theorem qX12_judges_64 : Dq cX12_judges 64 (.if_icmp .ne 97) 3 67 := ⟨by decide +kernel, rfl⟩
theorem qX12_judges_67 : Dq cX12_judges 67 (.aload_n 0) 1 68 := ⟨by decide +kernel, rfl⟩
theorem qX12_judges_68 : Dq cX12_judges 68 (.getfield 75) 3 71 := ⟨by decide +kernel, rfl⟩
theorem qX12_judges_71 : Dq cX12_judges 71 (.bipush 40) 2 73 := ⟨by decide +kernel, rfl⟩
theorem qX12_judges_73 : Dq cX12_judges 73 (.iload_n 1) 1 74 := ⟨by decide +kernel, rfl⟩
theorem qX12_judges_74 : Dq cX12_judges 74 (.imul) 1 75 := ⟨by decide +kernel, rfl⟩
theorem qX12_judges_75 : Dq cX12_judges 75 (.iconst 2) 1 76 := ⟨by decide +kernel, rfl⟩
theorem qX12_judges_76 : Dq cX12_judges 76 (.iload_n 3) 1 77 := ⟨by decide +kernel, rfl⟩
theorem qX12_judges_77 : Dq cX12_judges 77 (.imul) 1 78 := ⟨by decide +kernel, rfl⟩
theorem qX12_judges_78 : Dq cX12_judges 78 (.iadd) 1 79 := ⟨by decide +kernel, rfl⟩
theorem qX12_judges_79 : Dq cX12_judges 79 (.iaload) 1 80 := ⟨by decide +kernel, rfl⟩
theorem qX12_judges_80 : Dq cX12_judges 80 (.istore 4) 2 82 := ⟨by decide +kernel, rfl⟩
theorem qX12_judges_82 : Dq cX12_judges 82 (.aload_n 0) 1 83 := ⟨by decide +kernel, rfl⟩
theorem qX12_judges_83 : Dq cX12_judges 83 (.getfield 75) 3 86 := ⟨by decide +kernel, rfl⟩
theorem qX12_judges_86 : Dq cX12_judges 86 (.bipush 40) 2 88 := ⟨by decide +kernel, rfl⟩
theorem qX12_judges_88 : Dq cX12_judges 88 (.iload_n 1) 1 89 := ⟨by decide +kernel, rfl⟩
theorem qX12_judges_89 : Dq cX12_judges 89 (.imul) 1 90 := ⟨by decide +kernel, rfl⟩
theorem qX12_judges_90 : Dq cX12_judges 90 (.iconst 2) 1 91 := ⟨by decide +kernel, rfl⟩
theorem qX12_judges_91 : Dq cX12_judges 91 (.iload_n 3) 1 92 := ⟨by decide +kernel, rfl⟩
theorem qX12_judges_92 : Dq cX12_judges 92 (.imul) 1 93 := ⟨by decide +kernel, rfl⟩
theorem qX12_judges_93 : Dq cX12_judges 93 (.iadd) 1 94 := ⟨by decide +kernel, rfl⟩
theorem qX12_judges_94 : Dq cX12_judges 94 (.iconst 1) 1 95 := ⟨by decide +kernel, rfl⟩
theorem qX12_judges_95 : Dq cX12_judges 95 (.iadd) 1 96 := ⟨by decide +kernel, rfl⟩
theorem qX12_judges_96 : Dq cX12_judges 96 (.iaload) 1 97 := ⟨by decide +kernel, rfl⟩
theorem qX12_judges_97 : Dq cX12_judges 97 (.istore 5) 2 99 := ⟨by decide +kernel, rfl⟩
theorem qX12_judges_99 : Dq cX12_judges 99 (.aload_n 0) 1 100 := ⟨by decide +kernel, rfl⟩
theorem qX12_judges_100 : Dq cX12_judges 100 (.iload 4) 2 102 := ⟨by decide +kernel, rfl⟩
theorem qX12_judges_102 : Dq cX12_judges 102 (.invokevirtual 264) 3 105 := ⟨by decide +kernel, rfl⟩
theorem qX12_judges_105 : Dq cX12_judges 105 (.ifCond .eq 48) 3 108 := ⟨by decide +kernel, rfl⟩
theorem qX12_judges_108 : Dq cX12_judges 108 (.iload 5) 2 110 := ⟨by decide +kernel, rfl⟩
theorem qX12_judges_110 : Dq cX12_judges 110 (.invokestatic 96) 3 113 := ⟨by decide +kernel, rfl⟩
theorem qX12_judges_113 : Dq cX12_judges 113 (.ifCond .eq 40) 3 116 := ⟨by decide +kernel, rfl⟩
theorem qX12_judges_116 : Dq cX12_judges 116 (.aload_n 0) 1 117 := ⟨by decide +kernel, rfl⟩
theorem qX12_judges_117 : Dq cX12_judges 117 (.iload 5) 2 119 := ⟨by decide +kernel, rfl⟩
theorem qX12_judges_119 : Dq cX12_judges 119 (.invokevirtual 255) 3 122 := ⟨by decide +kernel, rfl⟩
theorem qX12_judges_122 : Dq cX12_judges 122 (.ifCond .ne 31) 3 125 := ⟨by decide +kernel, rfl⟩
theorem qX12_judges_125 : Dq cX12_judges 125 (.aload_n 0) 1 126 := ⟨by decide +kernel, rfl⟩
theorem qX12_judges_126 : Dq cX12_judges 126 (.dup) 1 127 := ⟨by decide +kernel, rfl⟩
theorem qX12_judges_127 : Dq cX12_judges 127 (.getfield 343) 3 130 := ⟨by decide +kernel, rfl⟩
theorem qX12_judges_130 : Dq cX12_judges 130 (.aload_n 0) 1 131 := ⟨by decide +kernel, rfl⟩
theorem qX12_judges_131 : Dq cX12_judges 131 (.iload 4) 2 133 := ⟨by decide +kernel, rfl⟩
theorem qX12_judges_133 : Dq cX12_judges 133 (.iload 5) 2 135 := ⟨by decide +kernel, rfl⟩
theorem qX12_judges_135 : Dq cX12_judges 135 (.invokevirtual 273) 3 138 := ⟨by decide +kernel, rfl⟩
theorem qX12_judges_138 : Dq cX12_judges 138 (.iadd) 1 139 := ⟨by decide +kernel, rfl⟩
theorem qX12_judges_139 : Dq cX12_judges 139 (.putfield 343) 3 142 := ⟨by decide +kernel, rfl⟩
theorem qX12_judges_142 : Dq cX12_judges 142 (.aload_n 0) 1 143 := ⟨by decide +kernel, rfl⟩
theorem qX12_judges_143 : Dq cX12_judges 143 (.iload 4) 2 145 := ⟨by decide +kernel, rfl⟩
theorem qX12_judges_145 : Dq cX12_judges 145 (.iload 5) 2 147 := ⟨by decide +kernel, rfl⟩
theorem qX12_judges_147 : Dq cX12_judges 147 (.invokevirtual 276) 3 150 := ⟨by decide +kernel, rfl⟩
theorem qX12_judges_150 : Dq cX12_judges 150 (.goto 5) 3 153 := ⟨by decide +kernel, rfl⟩
theorem qX12_judges_153 : Dq cX12_judges 153 (.iload_n 3) 1 154 := ⟨by decide +kernel, rfl⟩
theorem qX12_judges_154 : Dq cX12_judges 154 (.istore_n 2) 1 155 := ⟨by decide +kernel, rfl⟩
theorem qX12_judges_155 : Dq cX12_judges 155 (.iinc 3 1) 3 158 := ⟨by decide +kernel, rfl⟩
theorem qX12_judges_158 : Dq cX12_judges 158 (.goto (-108)) 3 161 := ⟨by decide +kernel, rfl⟩
theorem qX12_judges_161 : Dq cX12_judges 161 (.aload_n 0) 1 162 := ⟨by decide +kernel, rfl⟩
theorem qX12_judges_162 : Dq cX12_judges 162 (.invokevirtual 309) 3 165 := ⟨by decide +kernel, rfl⟩
theorem qX12_judges_165 : Dq cX12_judges 165 (.iload_n 2) 1 166 := ⟨by decide +kernel, rfl⟩
theorem qX12_judges_166 : Dq cX12_judges 166 (.ireturn) 1 167 := ⟨by decide +kernel, rfl⟩
set_option maxRecDepth 100000 in
set_option maxHeartbeats 4000000 in
theorem m_judges {G : Glb} {h : AHp} {E : Sst} (hc : MW h E) (s : Int32) : CP G m_X12_judges 66 0 0 [.ref 38, .int s] h (fun r h' => r = some (.int (judgeI E s)) ∧ ∃ σ J, h' = mkH h σ J ∧ MW (mkH h σ J) E ∧ K58 h σ ∧ (jCnd E s → σ 38 43 = jSum E (tn s))) := by
  suffices key : ∀ P : Option Value → AHp → Prop, (∀ r h', (r = some (.int (judgeI E s)) ∧ ∃ σ J, h' = mkH h σ J ∧ MW (mkH h σ J) E ∧ K58 h σ ∧ (jCnd E s → σ 38 43 = jSum E (tn s))) → P r h') → CP G m_X12_judges 66 0 0 [.ref 38, .int s] h P from key _ (fun _ _ z => z)
  intro P hP
  obtain ⟨hm, htx, hp, hb, hkp, htp, hst, hok⟩ := id hc
  have hc6 := hok.1
  have hm6 := hok.2.1
  have hkd : ∀ i, i < sM E → sK E i < 6 := fun i hi => (hok.2.2.1 i hi).1
  have hnu : ∀ i, i < sM E → inR (sN E i) 9 := fun i hi => (hok.2.2.1 i hi).2
  have hbe : BeOK (bm h) (sC E) := by rw [hb]; exact hok.2.2.2.1
  refine CP.of (by decide +kernel) (Nat.le_of_ble_eq_true rfl) fun X hX hR hnm => ?_
  show V X G 6 0 0 _ 0 [some (.ref 38), some (.int s), none, none, none, none] [] h
  refine v_iload_n hX rfl qX12_judges_0 ?_
  refine v_callSq hX hR k_X12_333 (m_isSheet _) rfl (Nat.le_of_ble_eq_true rfl) rfl (Nat.le_of_ble_eq_true rfl) ⟨Nat.le_of_ble_eq_true rfl, Nat.le_of_ble_eq_true rfl⟩ qX12_judges_1 ?_
  rintro _ _ ⟨rfl, rfl⟩
  first | refine v_if_neB hX 10 qX12_judges_4 rfl (fun q4 => ?_) (fun q4 => ?_) | refine v_if_ne hX 10 qX12_judges_4 rfl (fun q4 => ?_) (fun q4 => ?_)
  · skip
    obtain ⟨j, hj, rfl⟩ := rng_ex 3 (by omega) q4
    refine v_aload_n hX rfl qX12_judges_10 ?_
    refine v_getR hX g_X12_65 (hm.kd 38 rfl) (hm.rf 15 rfl) qX12_judges_11 ?_
    refine v_iload_n hX rfl qX12_judges_14 ?_
    refine v_zaldV hX (hm.kd 54 rfl) (hm.ln 54 rfl) (by exact ix_n (n := j) (by omega) rfl) (hst j (by omega)).1 qX12_judges_15 ?_
    first | refine v_if_neB hX 22 qX12_judges_16 rfl (fun q16 => ?_) (fun q16 => ?_) | refine v_if_ne hX 22 qX12_judges_16 rfl (fun q16 => ?_) (fun q16 => ?_)
    · skip
      obtain ⟨s1, s2, s3⟩ := (hst j (by omega)).2 q16
      obtain ⟨sl40, -⟩ := hok.2.2.2.2.2.2.2 j (by omega)
      refine v_aload_n hX rfl qX12_judges_22 ?_
      refine v_getR hX g_X12_72 (hm.kd 38 rfl) (hm.rf 17 rfl) qX12_judges_23 ?_
      refine v_iload_n hX rfl qX12_judges_26 ?_
      refine v_ialdV hX (hm.kd 56 rfl) (hm.ln 56 rfl) (by exact ix_n (n := j) (by omega) rfl) s2 qX12_judges_27 ?_
      refine v_iconst hX li_2 qX12_judges_28 ?_
      refine v_irem hX (by decide) qX12_judges_29 ?_
      refine v_eqI (show _ = nI (sL E j % 2) from rm2 (by omega)) ?_
      refine v_iconst hX li_1 qX12_judges_30 ?_
      refine v_icmp_ne hX 37 qX12_judges_31 rfl (fun q31 => ?_) (fun q31 => ?_)
      · have hev : sL E j % 2 = 0 := by
            have : ¬ sL E j % 2 = 1 := fun z => q31 (by rw [z]; rfl)
            omega
        refine v_aload_n hX rfl qX12_judges_37 ?_
        refine v_callVq hX hR k_X12_300 (hm.kd 38 rfl) (m_laysAside (by exact hm)) rfl (Nat.le_of_ble_eq_true rfl) rfl (Nat.le_of_ble_eq_true rfl) ⟨Nat.le_of_ble_eq_true rfl, Nat.le_of_ble_eq_true rfl⟩ qX12_judges_38 ?_
        rintro _ _ ⟨rfl, σ0, rfl, hf0, hw0⟩
        refine v_iconst hX li_n1 qX12_judges_41 ?_
        refine v_istore_n hX (Nat.le_of_ble_eq_true rfl) rfl (ls' := [some _, some _, some _, none, none, none]) rfl qX12_judges_42 ?_
        refine v_aload_n hX rfl qX12_judges_43 ?_
        refine v_iconst hX li_0 qX12_judges_44 ?_
        refine v_putI hX p_X12_343 (hm.kd 38 rfl) (Or.inl rfl) qX12_judges_45 ?_
        refine v_iconst hX li_0 qX12_judges_48 ?_
        refine v_istore_n hX (Nat.le_of_ble_eq_true rfl) rfl (ls' := [some _, some _, some _, some _, none, none]) rfl qX12_judges_49 ?_
        have L50 : ∀ (mz : Nat) (i c : Nat) (g : Int32) (σ : Nat → Nat → Int32) (J : Nat → Nat → Int64), sL E j / 2 - i = mz → (i ≤ sL E j / 2) → (JdI h E j c σ J) → ((g = -1 ∧ i = c) ∨ (g = nI c ∧ c < sL E j / 2 ∧ jbE E j c = true)) → V X G 6 0 0 (QM X G P 0 0) 50 [some (.ref 38), some (.int (nI j)), some (.int g), some (.int (nI i)), none, none] [] (mkH h σ J) := by
          intro mz
          induction mz using Nat.strongRecOn with
          | _ mz ih =>
          intro i c g σ J hmz hi hI hg
          refine v_iload_n hX rfl qX12_judges_50 ?_
          refine v_aload_n hX rfl qX12_judges_51 ?_
          refine v_getR hX g_X12_72 (hm.kd 38 rfl) (hm.rf 17 rfl) qX12_judges_52 ?_
          refine v_iload_n hX rfl qX12_judges_55 ?_
          refine v_ialdV hX (hm.kd 56 rfl) (hm.ln 56 rfl) (by exact ix_n (n := j) (by omega) rfl) (show _ = nI (sL E j) from (hI.2.1 56 j (by omega) (by omega) (by omega)).trans s2) qX12_judges_56 ?_
          refine v_iconst hX li_2 qX12_judges_57 ?_
          refine v_idiv hX (by decide) qX12_judges_58 ?_
          refine v_eqI (show _ = nI (sL E j / 2) from pk_div (d := 2) (by omega) (by omega) (by omega)) ?_
          refine v_icmp_geS hX 161 qX12_judges_59 rfl (fun q59 => ?_) (fun q59 => ?_)
          · have e1 : i = sL E j / 2 := Nat.le_antisymm hi (nI_le' (by omega) (by omega) q59)
            have hfx : fx (jbE E j) (sL E j / 2) 0 = g ∧ fc (jbE E j) (sL E j / 2) 0 = c := by
              rcases hg with ⟨z, z1⟩ | ⟨z, z1, z2⟩
              · subst z1; rw [z, ← e1]; exact ⟨fx_no i 0 (fun k _ hk => hI.2.2.2.2 k (by omega)), (fc_no i 0 (fun k _ hk => hI.2.2.2.2 k (by omega))).trans (by omega)⟩
              · rw [z]; exact ⟨fx_hit z2 _ 0 (by omega) (by omega) (fun k _ hk => hI.2.2.2.2 k hk), fc_hit z2 _ 0 (by omega) (by omega) (fun k _ hk => hI.2.2.2.2 k hk)⟩
            refine v_aload_n hX rfl qX12_judges_161 ?_
            refine v_callVq hX hR k_X12_309 (hm.kd 38 rfl) (m_laysBack (by exact hm) (b := sB E) (by exact hI.2.2.1) (by exact (show _ = _ from (hI.2.1 38 9 (by omega) (by omega) (by omega)).trans (by rw [← hb]; rfl))) (by exact (show _ = _ from (hI.2.1 38 4 (by omega) (by omega) (by omega)).trans (by rw [← hb]; rfl))) (by exact (fun i k ho => by rw [← hb]; exact bm_0 ho))) rfl (Nat.le_of_ble_eq_true rfl) rfl (Nat.le_of_ble_eq_true rfl) ⟨Nat.le_of_ble_eq_true rfl, Nat.le_of_ble_eq_true rfl⟩ qX12_judges_162 ?_
            rintro _ _ ⟨rfl, τ, rfl, hft, hbt⟩
            refine v_iload_n hX rfl qX12_judges_165 ?_
            refine v_ireturn hX qX12_judges_166 (hP _ _ ?_)
            rw [judgeI, if_pos q4, tn_nI (show j < 2000000 by omega), if_neg q16, if_neg (show ¬ ¬ rmI (nI (sL E j)) 2 = 0 from fun z => z (by rw [rm2 (by omega), hev]; rfl)), hfx.1]
            have hfz : FrZ h τ := fun a k a1 a2 a3 => (hft a k a1 (by omega)).trans (hI.2.1 a k a1 a2 a3)
            refine ⟨rfl, τ, J, rfl, hc.q (J := J) hfz.n hbt hok.2.2.2.1, hfz.n.k, fun _ => ?_⟩
            unfold jSum
            rw [hfx.2]
            exact (hft 38 43 (by omega) (by omega)).trans hI.2.2.2.1
          · have hl := nI_lt' (by omega) (by omega) q59
            refine v_iload_n hX rfl qX12_judges_62 ?_
            refine v_iconst hX li_n1 qX12_judges_63 ?_
            refine v_icmp_ne hX 161 qX12_judges_64 rfl (fun q64 => ?_) (fun q64 => ?_)
            · have hfx : fx (jbE E j) (sL E j / 2) 0 = g ∧ fc (jbE E j) (sL E j / 2) 0 = c := by
                rcases hg with ⟨z, z1⟩ | ⟨z, z1, z2⟩
                · exact absurd z q64
                · rw [z]; exact ⟨fx_hit z2 _ 0 (by omega) (by omega) (fun k _ hk => hI.2.2.2.2 k hk), fc_hit z2 _ 0 (by omega) (by omega) (fun k _ hk => hI.2.2.2.2 k hk)⟩
              refine v_aload_n hX rfl qX12_judges_161 ?_
              refine v_callVq hX hR k_X12_309 (hm.kd 38 rfl) (m_laysBack (by exact hm) (b := sB E) (by exact hI.2.2.1) (by exact (show _ = _ from (hI.2.1 38 9 (by omega) (by omega) (by omega)).trans (by rw [← hb]; rfl))) (by exact (show _ = _ from (hI.2.1 38 4 (by omega) (by omega) (by omega)).trans (by rw [← hb]; rfl))) (by exact (fun i k ho => by rw [← hb]; exact bm_0 ho))) rfl (Nat.le_of_ble_eq_true rfl) rfl (Nat.le_of_ble_eq_true rfl) ⟨Nat.le_of_ble_eq_true rfl, Nat.le_of_ble_eq_true rfl⟩ qX12_judges_162 ?_
              rintro _ _ ⟨rfl, τ, rfl, hft, hbt⟩
              refine v_iload_n hX rfl qX12_judges_165 ?_
              refine v_ireturn hX qX12_judges_166 (hP _ _ ?_)
              rw [judgeI, if_pos q4, tn_nI (show j < 2000000 by omega), if_neg q16, if_neg (show ¬ ¬ rmI (nI (sL E j)) 2 = 0 from fun z => z (by rw [rm2 (by omega), hev]; rfl)), hfx.1]
              have hfz : FrZ h τ := fun a k a1 a2 a3 => (hft a k a1 (by omega)).trans (hI.2.1 a k a1 a2 a3)
              refine ⟨rfl, τ, J, rfl, hc.q (J := J) hfz.n hbt hok.2.2.2.1, hfz.n.k, fun _ => ?_⟩
              unfold jSum
              rw [hfx.2]
              exact (hft 38 43 (by omega) (by omega)).trans hI.2.2.2.1
            · obtain ⟨rfl, rfl⟩ : g = -1 ∧ i = c := by
                rcases hg with z | ⟨z, z1, z2⟩
                · exact z
                · rw [z] at q64; exact absurd q64 (nI_ne1 (by omega))
              have hcv := hI.1
              refine v_aload_n hX rfl qX12_judges_67 ?_
              refine v_getR hX g_X12_75 (hm.kd 38 rfl) (hm.rf 18 rfl) qX12_judges_68 ?_
              refine v_bipush hX lb_40 qX12_judges_71 ?_
              refine v_iload_n hX rfl qX12_judges_73 ?_
              refine v_imul hX qX12_judges_74 ?_
              refine v_iconst hX li_2 qX12_judges_75 ?_
              refine v_iload_n hX rfl qX12_judges_76 ?_
              refine v_imul hX qX12_judges_77 ?_
              refine v_iadd hX qX12_judges_78 ?_
              refine v_eqI (show _ = nI (40 * j + 2 * i) by rw [show (40 : Int32) = nI 40 from rfl, show (2 : Int32) = nI 2 from rfl, pk_mul, pk_mul, nI_add]) ?_
              refine v_ialdV hX (hm.kd 57 rfl) (hm.ln 57 rfl) (by exact ix_n (n := 40 * j + 2 * i) (by omega) rfl) (show _ = sI' E j (2 * i) from (hI.2.1 57 (40 * j + 2 * i) (by omega) (by omega) (by omega)).trans (s3 (2 * i) (by omega))) qX12_judges_79 ?_
              refine v_istore hX (Nat.le_of_ble_eq_true rfl) rfl (ls' := [some _, some _, some _, some _, some _, none]) rfl qX12_judges_80 ?_
              refine v_aload_n hX rfl qX12_judges_82 ?_
              refine v_getR hX g_X12_75 (hm.kd 38 rfl) (hm.rf 18 rfl) qX12_judges_83 ?_
              refine v_bipush hX lb_40 qX12_judges_86 ?_
              refine v_iload_n hX rfl qX12_judges_88 ?_
              refine v_imul hX qX12_judges_89 ?_
              refine v_iconst hX li_2 qX12_judges_90 ?_
              refine v_iload_n hX rfl qX12_judges_91 ?_
              refine v_imul hX qX12_judges_92 ?_
              refine v_iadd hX qX12_judges_93 ?_
              refine v_iconst hX li_1 qX12_judges_94 ?_
              refine v_iadd hX qX12_judges_95 ?_
              refine v_eqI (show _ = nI (40 * j + (2 * i + 1)) by rw [show (40 : Int32) = nI 40 from rfl, show (2 : Int32) = nI 2 from rfl, pk_mul, pk_mul, nI_add, nI_1]; rfl) ?_
              refine v_ialdV hX (hm.kd 57 rfl) (hm.ln 57 rfl) (by exact ix_n (n := 40 * j + (2 * i + 1)) (by omega) rfl) (show _ = sI' E j (2 * i + 1) from (hI.2.1 57 (40 * j + (2 * i + 1)) (by omega) (by omega) (by omega)).trans (s3 (2 * i + 1) (by omega))) qX12_judges_96 ?_
              refine v_istore hX (Nat.le_of_ble_eq_true rfl) rfl (ls' := [some _, some _, some _, some _, some _, some _]) rfl qX12_judges_97 ?_
              refine v_aload_n hX rfl qX12_judges_99 ?_
              refine v_iload hX rfl qX12_judges_100 ?_
              refine v_callVq hX hR k_X12_264 (hm.kd 38 rfl) (m_isLooker (m := sM E) (by exact hm) (by exact hcv.2.2.1.1) (by exact hm6) _) rfl (Nat.le_of_ble_eq_true rfl) rfl (Nat.le_of_ble_eq_true rfl) ⟨Nat.le_of_ble_eq_true rfl, Nat.le_of_ble_eq_true rfl⟩ qX12_judges_102 ?_
              rintro _ _ ⟨rfl, rfl⟩
              first | refine v_if_eqB hX 153 qX12_judges_105 rfl (fun q105 => ?_) (fun q105 => ?_) | refine v_if_eq hX 153 qX12_judges_105 rfl (fun q105 => ?_) (fun q105 => ?_)
              · skip
                refine v_iload_n hX rfl qX12_judges_153 ?_
                refine v_istore_n hX (Nat.le_of_ble_eq_true rfl) rfl (ls' := [some _, some _, some _, some _, some _, some _]) rfl qX12_judges_154 ?_
                refine v_iinc hX rfl (by first | exact ii_nI _ | exact ii_1 _) (Nat.le_of_ble_eq_true rfl) rfl (ls' := [some _, some _, some _, some _, some _, some _]) rfl qX12_judges_155 ?_
                refine v_goto hX 50 qX12_judges_158 rfl ?_
                refine v_forget (ls' := [_, _, _, _, none, none]) ⟨Or.inr rfl, Or.inr rfl, Or.inr rfl, Or.inr rfl, Or.inl rfl, Or.inl rfl, trivial⟩ ?_
                first | exact ih _ (by omega) (i + 1) (i + 1) (-1) σ3 J3 rfl (by omega) (hI.next hl2 hm6 hw el ew hse hf1 hf2 hf3 hm3) (Or.inl ⟨rfl, rfl⟩) | exact ih _ (by omega) (i + 1) i (nI i) σ J rfl (by omega) hI (Or.inr ⟨rfl, hl, by first | exact jb_bad1 q105 | exact jb_bad2 q113⟩) | exact ih _ (by omega) (i + 1) i (nI i) σ1 J1 rfl (by omega) (hI.R hf1) (Or.inr ⟨rfl, hl, jb_bad3 hw ew q122⟩)
              · obtain ⟨l, hl2, el⟩ := ofRange q105.1 q105.2 (by omega)
                refine v_iload hX rfl qX12_judges_108 ?_
                refine v_callSq hX hR k_X12_96 (m_isCell _) rfl (Nat.le_of_ble_eq_true rfl) rfl (Nat.le_of_ble_eq_true rfl) ⟨Nat.le_of_ble_eq_true rfl, Nat.le_of_ble_eq_true rfl⟩ qX12_judges_110 ?_
                rintro _ _ ⟨rfl, rfl⟩
                first | refine v_if_eqB hX 153 qX12_judges_113 rfl (fun q113 => ?_) (fun q113 => ?_) | refine v_if_eq hX 153 qX12_judges_113 rfl (fun q113 => ?_) (fun q113 => ?_)
                · skip
                  refine v_iload_n hX rfl qX12_judges_153 ?_
                  refine v_istore_n hX (Nat.le_of_ble_eq_true rfl) rfl (ls' := [some _, some _, some _, some _, some _, some _]) rfl qX12_judges_154 ?_
                  refine v_iinc hX rfl (by first | exact ii_nI _ | exact ii_1 _) (Nat.le_of_ble_eq_true rfl) rfl (ls' := [some _, some _, some _, some _, some _, some _]) rfl qX12_judges_155 ?_
                  refine v_goto hX 50 qX12_judges_158 rfl ?_
                  refine v_forget (ls' := [_, _, _, _, none, none]) ⟨Or.inr rfl, Or.inr rfl, Or.inr rfl, Or.inr rfl, Or.inl rfl, Or.inl rfl, trivial⟩ ?_
                  first | exact ih _ (by omega) (i + 1) (i + 1) (-1) σ3 J3 rfl (by omega) (hI.next hl2 hm6 hw el ew hse hf1 hf2 hf3 hm3) (Or.inl ⟨rfl, rfl⟩) | exact ih _ (by omega) (i + 1) i (nI i) σ J rfl (by omega) hI (Or.inr ⟨rfl, hl, by first | exact jb_bad1 q105 | exact jb_bad2 q113⟩) | exact ih _ (by omega) (i + 1) i (nI i) σ1 J1 rfl (by omega) (hI.R hf1) (Or.inr ⟨rfl, hl, jb_bad3 hw ew q122⟩)
                · obtain ⟨w, hw, ew⟩ := isC_ex q113
                  rw [el, ew]
                  refine v_aload_n hX rfl qX12_judges_116 ?_
                  refine v_iload hX rfl qX12_judges_117 ?_
                  refine v_callVq hX hR k_X12_255 (hm.kd 38 rfl) (mw_isUnder (by exact hcv) (by exact hw)) rfl (Nat.le_of_ble_eq_true rfl) rfl (Nat.le_of_ble_eq_true rfl) ⟨Nat.le_of_ble_eq_true rfl, Nat.le_of_ble_eq_true rfl⟩ qX12_judges_119 ?_
                  rintro _ _ ⟨rfl, σ1, J1, rfl, hf1⟩
                  first | refine v_if_neB hX 153 qX12_judges_122 rfl (fun q122 => ?_) (fun q122 => ?_) | refine v_if_ne hX 153 qX12_judges_122 rfl (fun q122 => ?_) (fun q122 => ?_)
                  · skip
                    refine v_iload_n hX rfl qX12_judges_153 ?_
                    refine v_istore_n hX (Nat.le_of_ble_eq_true rfl) rfl (ls' := [some _, some _, some _, some _, some _, some _]) rfl qX12_judges_154 ?_
                    refine v_iinc hX rfl (by first | exact ii_nI _ | exact ii_1 _) (Nat.le_of_ble_eq_true rfl) rfl (ls' := [some _, some _, some _, some _, some _, some _]) rfl qX12_judges_155 ?_
                    refine v_goto hX 50 qX12_judges_158 rfl ?_
                    refine v_forget (ls' := [_, _, _, _, none, none]) ⟨Or.inr rfl, Or.inr rfl, Or.inr rfl, Or.inr rfl, Or.inl rfl, Or.inl rfl, trivial⟩ ?_
                    first | exact ih _ (by omega) (i + 1) (i + 1) (-1) σ3 J3 rfl (by omega) (hI.next hl2 hm6 hw el ew hse hf1 hf2 hf3 hm3) (Or.inl ⟨rfl, rfl⟩) | exact ih _ (by omega) (i + 1) i (nI i) σ J rfl (by omega) hI (Or.inr ⟨rfl, hl, by first | exact jb_bad1 q105 | exact jb_bad2 q113⟩) | exact ih _ (by omega) (i + 1) i (nI i) σ1 J1 rfl (by omega) (hI.R hf1) (Or.inr ⟨rfl, hl, jb_bad3 hw ew q122⟩)
                  · have hse : seB (sT E) (jqE E j i) w = 0 := Classical.byContradiction q122
                    have hcv1 := hcv.fr hf1
                    refine v_aload_n hX rfl qX12_judges_125 ?_
                    refine v_dup hX rfl qX12_judges_126 ?_
                    refine v_getIv hX g_X12_343 (Or.inl rfl) (hm.kd 38 rfl) (show _ = sumN (jgE E j) i from (hf1.1 38 43 (by omega)).trans hI.2.2.2.1) qX12_judges_127 ?_
                    refine v_aload_n hX rfl qX12_judges_130 ?_
                    refine v_iload hX rfl qX12_judges_131 ?_
                    refine v_iload hX rfl qX12_judges_133 ?_
                    refine v_callVq hX hR k_X12_273 (hm.kd 38 rfl) (mw_gain (by exact hcv1) (by exact hl2) (by exact hw)) rfl (Nat.le_of_ble_eq_true rfl) rfl (Nat.le_of_ble_eq_true rfl) ⟨Nat.le_of_ble_eq_true rfl, Nat.le_of_ble_eq_true rfl⟩ qX12_judges_135 ?_
                    rintro _ _ ⟨rfl, σ2, J2, rfl, hf2⟩
                    have hcv2 := hcv1.fr hf2
                    refine v_iadd hX qX12_judges_138 ?_
                    refine v_putI hX p_X12_343 (hm.kd 38 rfl) (Or.inl rfl) qX12_judges_139 ?_
                    refine v_aload_n hX rfl qX12_judges_142 ?_
                    refine v_iload hX rfl qX12_judges_143 ?_
                    refine v_iload hX rfl qX12_judges_145 ?_
                    refine v_callVq hX hR k_X12_276 (hm.kd 38 rfl) (m_looks (by exact (hcv2.sc (a := 38) (k := 43) (v := sumN (jgE E j) i + gainB (sT E) (jqE E j i) (sK E l) (sN E l) w) (Or.inr ⟨rfl, by omega, by omega⟩))) (by exact hl2) (by exact hw)) rfl (Nat.le_of_ble_eq_true rfl) rfl (Nat.le_of_ble_eq_true rfl) ⟨Nat.le_of_ble_eq_true rfl, Nat.le_of_ble_eq_true rfl⟩ qX12_judges_147 ?_
                    rintro _ _ ⟨rfl, σ3, J3, rfl, hf3, hm3⟩
                    refine v_goto hX 155 qX12_judges_150 rfl ?_
                    refine v_iinc hX rfl (by first | exact ii_nI _ | exact ii_1 _) (Nat.le_of_ble_eq_true rfl) rfl (ls' := [some _, some _, some _, some _, some _, some _]) rfl qX12_judges_155 ?_
                    refine v_goto hX 50 qX12_judges_158 rfl ?_
                    refine v_forget (ls' := [_, _, _, _, none, none]) ⟨Or.inr rfl, Or.inr rfl, Or.inr rfl, Or.inr rfl, Or.inl rfl, Or.inl rfl, trivial⟩ ?_
                    first | exact ih _ (by omega) (i + 1) (i + 1) (-1) σ3 J3 rfl (by omega) (hI.next hl2 hm6 hw el ew hse hf1 hf2 hf3 hm3) (Or.inl ⟨rfl, rfl⟩) | exact ih _ (by omega) (i + 1) i (nI i) σ J rfl (by omega) hI (Or.inr ⟨rfl, hl, by first | exact jb_bad1 q105 | exact jb_bad2 q113⟩) | exact ih _ (by omega) (i + 1) i (nI i) σ1 J1 rfl (by omega) (hI.R hf1) (Or.inr ⟨rfl, hl, jb_bad3 hw ew q122⟩)
        exact L50 _ 0 0 (-1) (stI (mkH h σ0 h.2.2.1) 38 43 0).1 h.2.2.1 rfl (by omega) ⟨MW.sc (hc.q (fun a k a1 a2 a3 => hf0 a k (by omega) (by omega)) ((bm_ext (h := mkH h σ0 h.2.2.1) (h' := h) (fun k _ => hf0 42 k (by omega) (by omega)) (fun k _ => hf0 43 k (by omega) (by omega)) (hf0 38 9 (by omega) (by omega)) (hf0 38 10 (by omega) (by omega)) (hf0 38 11 (by omega) (by omega)) (hf0 38 4 (by omega) (by omega))).trans hb) hok.2.2.2.1) (Or.inr ⟨rfl, by omega, by omega⟩), fun a k a1 a2 a3 => by show hpI (stI _ _ _ _) _ _ = _; rw [hpI_st, if_neg (by omega)]; exact hf0 a k (by omega) (by omega), by rw [← hb]; exact hw0.z (h := mkH h σ0 h.2.2.1) (fun a k ha => by show hpI (stI _ _ _ _) _ _ = _; rw [hpI_st, if_neg (by omega)]), rfl, fun j hj => absurd hj (by omega)⟩ (Or.inl ⟨rfl, rfl⟩)
      · have hodd : 0 < sL E j % 2 := by
            have := (nI_eq (a := sL E j % 2) (b := 1) (by omega) (by omega)).mp q31
            omega
        refine v_bipush hX lb_n2 qX12_judges_34 ?_
        refine v_ireturn hX qX12_judges_36 (hP _ _ ?_)
        rw [judgeI, if_pos q4, tn_nI (show j < 2000000 by omega), if_neg q16, if_pos (by rw [rm2 (by omega)]; exact nI_ne0 hodd (by omega))]
        exact ⟨rfl, h.1, h.2.2.1, rfl, hc, fun a _ => rfl, fun z => by have := z.2.2; rw [tn_nI (by omega), rm2 (by omega)] at this; exact absurd this (nI_ne0 hodd (by omega))⟩
    · skip
      refine v_bipush hX lb_n11 qX12_judges_19 ?_
      refine v_ireturn hX qX12_judges_21 (hP _ _ ?_)
      rw [judgeI, if_pos q4, tn_nI (show j < 2000000 by omega), if_pos (Classical.byContradiction q16)]
      exact ⟨rfl, h.1, h.2.2.1, rfl, hc, fun a _ => rfl, fun z => by have := z.2.1; rw [tn_nI (by omega)] at this; exact absurd this q16⟩
  · skip
    refine v_bipush hX lb_n2 qX12_judges_7 ?_
    refine v_ireturn hX qX12_judges_9 (hP _ _ ?_)
    rw [judgeI, if_neg q4]
    exact ⟨rfl, h.1, h.2.2.1, rfl, hc, fun a _ => rfl, fun z => absurd z.1 q4⟩
theorem qX12_judge_0 : Dq cX12_judge 0 (.aload_n 0) 1 1 := ⟨by decide +kernel, rfl⟩
theorem qX12_judge_1 : Dq cX12_judge 1 (.iload_n 1) 1 2 := ⟨by decide +kernel, rfl⟩
theorem qX12_judge_2 : Dq cX12_judge 2 (.invokevirtual 346) 3 5 := ⟨by decide +kernel, rfl⟩
theorem qX12_judge_5 : Dq cX12_judge 5 (.ireturn) 1 6 := ⟨by decide +kernel, rfl⟩
set_option maxRecDepth 100000 in
set_option maxHeartbeats 4000000 in
theorem m_judge {G : Glb} {h : AHp} {E : Sst} (hc : MW h E) (s : Int32) : CP G m_X12_judge 67 0 0 [.ref 38, .int s] h (fun r h' => r = some (.int (judgeI E s)) ∧ ∃ σ J, h' = mkH h σ J ∧ MW (mkH h σ J) E ∧ K58 h σ) := by
  suffices key : ∀ P : Option Value → AHp → Prop, (∀ r h', (r = some (.int (judgeI E s)) ∧ ∃ σ J, h' = mkH h σ J ∧ MW (mkH h σ J) E ∧ K58 h σ) → P r h') → CP G m_X12_judge 67 0 0 [.ref 38, .int s] h P from key _ (fun _ _ z => z)
  intro P hP
  obtain ⟨hm, htx, hp, hb, hkp, htp, hst, hok⟩ := id hc
  have hc6 := hok.1
  have hm6 := hok.2.1
  have hkd : ∀ i, i < sM E → sK E i < 6 := fun i hi => (hok.2.2.1 i hi).1
  have hnu : ∀ i, i < sM E → inR (sN E i) 9 := fun i hi => (hok.2.2.1 i hi).2
  have hbe : BeOK (bm h) (sC E) := by rw [hb]; exact hok.2.2.2.1
  refine CP.of (by decide +kernel) (Nat.le_of_ble_eq_true rfl) fun X hX hR hnm => ?_
  show V X G 2 0 0 _ 0 [some (.ref 38), some (.int s)] [] h
  refine v_aload_n hX rfl qX12_judge_0 ?_
  refine v_iload_n hX rfl qX12_judge_1 ?_
  refine v_callVq hX hR k_X12_346 (hm.kd 38 rfl) (m_judges (by exact hc) _) rfl (Nat.le_of_ble_eq_true rfl) rfl (Nat.le_of_ble_eq_true rfl) ⟨Nat.le_of_ble_eq_true rfl, Nat.le_of_ble_eq_true rfl⟩ qX12_judge_2 ?_
  rintro _ _ ⟨rfl, σ, J, rfl, hm2, hk2, -⟩
  refine v_ireturn hX qX12_judge_5 (hP _ _ ?_)
  exact ⟨rfl, σ, J, rfl, hm2, hk2⟩
theorem qX12_found_0 : Dq cX12_found 0 (.iload_n 2) 1 1 := ⟨by decide +kernel, rfl⟩
theorem qX12_found_1 : Dq cX12_found 1 (.i2l) 1 2 := ⟨by decide +kernel, rfl⟩
theorem qX12_found_2 : Dq cX12_found 2 (.lconst 0) 1 3 := ⟨by decide +kernel, rfl⟩
theorem qX12_found_3 : Dq cX12_found 3 (.lconst 1) 1 4 := ⟨by decide +kernel, rfl⟩
theorem qX12_found_4 : Dq cX12_found 4 (.invokestatic 87) 3 7 := ⟨by decide +kernel, rfl⟩
theorem qX12_found_7 : Dq cX12_found 7 (.ifCond .eq 15) 3 10 := ⟨by decide +kernel, rfl⟩
theorem qX12_found_10 : Dq cX12_found 10 (.aload_n 0) 1 11 := ⟨by decide +kernel, rfl⟩
theorem qX12_found_11 : Dq cX12_found 11 (.invokevirtual 320) 3 14 := ⟨by decide +kernel, rfl⟩
theorem qX12_found_14 : Dq cX12_found 14 (.aload_n 0) 1 15 := ⟨by decide +kernel, rfl⟩
theorem qX12_found_15 : Dq cX12_found 15 (.getfield 108) 3 18 := ⟨by decide +kernel, rfl⟩
theorem qX12_found_18 : Dq cX12_found 18 (.iadd) 1 19 := ⟨by decide +kernel, rfl⟩
theorem qX12_found_19 : Dq cX12_found 19 (.ifCond .ne 7) 3 22 := ⟨by decide +kernel, rfl⟩
theorem qX12_found_22 : Dq cX12_found 22 (.ldc2_w 327) 3 25 := ⟨by decide +kernel, rfl⟩
theorem qX12_found_25 : Dq cX12_found 25 (.lreturn) 1 26 := ⟨by decide +kernel, rfl⟩
theorem qX12_found_26 : Dq cX12_found 26 (.aload_n 0) 1 27 := ⟨by decide +kernel, rfl⟩
theorem qX12_found_27 : Dq cX12_found 27 (.iload_n 1) 1 28 := ⟨by decide +kernel, rfl⟩
theorem qX12_found_28 : Dq cX12_found 28 (.invokevirtual 346) 3 31 := ⟨by decide +kernel, rfl⟩
theorem qX12_found_31 : Dq cX12_found 31 (.istore_n 3) 1 32 := ⟨by decide +kernel, rfl⟩
theorem qX12_found_32 : Dq cX12_found 32 (.iload_n 3) 1 33 := ⟨by decide +kernel, rfl⟩
theorem qX12_found_33 : Dq cX12_found 33 (.iconst (-1)) 1 34 := ⟨by decide +kernel, rfl⟩
theorem qX12_found_34 : Dq cX12_found 34 (.if_icmp .ge 9) 3 37 := ⟨by decide +kernel, rfl⟩
theorem qX12_found_37 : Dq cX12_found 37 (.ldc2_w 327) 3 40 := ⟨by decide +kernel, rfl⟩
theorem qX12_found_40 : Dq cX12_found 40 (.goto 22) 3 43 := ⟨by decide +kernel, rfl⟩
theorem qX12_found_43 : Dq cX12_found 43 (.aload_n 0) 1 44 := ⟨by decide +kernel, rfl⟩
theorem qX12_found_44 : Dq cX12_found 44 (.getfield 343) 3 47 := ⟨by decide +kernel, rfl⟩
theorem qX12_found_47 : Dq cX12_found 47 (.i2l) 1 48 := ⟨by decide +kernel, rfl⟩
theorem qX12_found_48 : Dq cX12_found 48 (.aload_n 0) 1 49 := ⟨by decide +kernel, rfl⟩
theorem qX12_found_49 : Dq cX12_found 49 (.invokevirtual 320) 3 52 := ⟨by decide +kernel, rfl⟩
theorem qX12_found_52 : Dq cX12_found 52 (.aload_n 0) 1 53 := ⟨by decide +kernel, rfl⟩
theorem qX12_found_53 : Dq cX12_found 53 (.getfield 108) 3 56 := ⟨by decide +kernel, rfl⟩
theorem qX12_found_56 : Dq cX12_found 56 (.iadd) 1 57 := ⟨by decide +kernel, rfl⟩
theorem qX12_found_57 : Dq cX12_found 57 (.i2l) 1 58 := ⟨by decide +kernel, rfl⟩
theorem qX12_found_58 : Dq cX12_found 58 (.iload_n 2) 1 59 := ⟨by decide +kernel, rfl⟩
theorem qX12_found_59 : Dq cX12_found 59 (.invokestatic 323) 3 62 := ⟨by decide +kernel, rfl⟩
theorem qX12_found_62 : Dq cX12_found 62 (.lreturn) 1 63 := ⟨by decide +kernel, rfl⟩
set_option maxRecDepth 100000 in
set_option maxHeartbeats 4000000 in
theorem m_found {G : Glb} {h : AHp} {E : Sst} (hc : MW h E) (s q : Int32) : CP G m_X12_found 68 0 0 [.ref 38, .int s, .int q] h (fun r h' => r = some (.long (foundI E s q)) ∧ ∃ σ J, h' = mkH h σ J ∧ MW (mkH h σ J) E ∧ K58 h σ) := by
  suffices key : ∀ P : Option Value → AHp → Prop, (∀ r h', (r = some (.long (foundI E s q)) ∧ ∃ σ J, h' = mkH h σ J ∧ MW (mkH h σ J) E ∧ K58 h σ) → P r h') → CP G m_X12_found 68 0 0 [.ref 38, .int s, .int q] h P from key _ (fun _ _ z => z)
  intro P hP
  obtain ⟨hm, htx, hp, hb, hkp, htp, hst, hok⟩ := id hc
  have hc6 := hok.1
  have hm6 := hok.2.1
  have hkd : ∀ i, i < sM E → sK E i < 6 := fun i hi => (hok.2.2.1 i hi).1
  have hnu : ∀ i, i < sM E → inR (sN E i) 9 := fun i hi => (hok.2.2.1 i hi).2
  have hbe : BeOK (bm h) (sC E) := by rw [hb]; exact hok.2.2.2.1
  obtain ⟨A, hA, eA⟩ := allI_in hok.2.2.2.1
  have tA : tn (allI (sB E)) = A := by rw [eA]; exact nI_clamp (by omega)
  obtain ⟨O, hO, eO⟩ := onI_in hok.2.2.2.1
  have tO : tn (onI (sB E)) = O := by rw [eO]; exact nI_clamp (by omega)
  refine CP.of (by decide +kernel) (Nat.le_of_ble_eq_true rfl) fun X hX hR hnm => ?_
  show V X G 4 0 0 _ 0 [some (.ref 38), some (.int s), some (.int q), none] [] h
  refine v_iload_n hX rfl qX12_found_0 ?_
  refine v_i2l hX qX12_found_1 ?_
  refine v_lconst hX ll_0 qX12_found_2 ?_
  refine v_lconst hX ll_1 qX12_found_3 ?_
  refine v_callSq hX hR k_X12_87 (m_in _ (by exact (0)) (by exact (1))) rfl (Nat.le_of_ble_eq_true rfl) rfl (Nat.le_of_ble_eq_true rfl) ⟨Nat.le_of_ble_eq_true rfl, Nat.le_of_ble_eq_true rfl⟩ qX12_found_4 ?_
  rintro _ _ ⟨rfl, rfl⟩
  first | refine v_if_eqB hX 22 qX12_found_7 rfl (fun q7 => ?_) (fun q7 => ?_) | refine v_if_eq hX 22 qX12_found_7 rfl (fun q7 => ?_) (fun q7 => ?_)
  · skip
    refine v_ldc2 hX c_X12_327 qX12_found_22 ?_
    refine v_lreturn hX qX12_found_25 (hP _ _ ?_)
    have hno : foundI E s q = NOI := by
      unfold foundI
      split
      · first | rw [if_neg (fun z => q7 z.1)] | rw [if_neg (fun z => hA0 z.2)]
      · rfl
    rw [hno]
    exact ⟨rfl, h.1, h.2.2.1, rfl, hc, fun a _ => rfl⟩
  · skip
    refine v_aload_n hX rfl qX12_found_10 ?_
    refine v_callVq hX hR k_X12_320 (hm.kd 38 rfl) (m_onCells (by exact hc)) rfl (Nat.le_of_ble_eq_true rfl) rfl (Nat.le_of_ble_eq_true rfl) ⟨Nat.le_of_ble_eq_true rfl, Nat.le_of_ble_eq_true rfl⟩ qX12_found_11 ?_
    rintro _ _ ⟨rfl, rfl⟩
    refine v_aload_n hX rfl qX12_found_14 ?_
    refine v_getIv hX g_X12_108 (Or.inl rfl) (hm.kd 38 rfl) (show _ = sB E 0 2 by rw [← hb]; rfl) qX12_found_15 ?_
    refine v_iadd hX qX12_found_18 ?_
    refine v_eqI (show _ = allI (sB E) from rfl) ?_
    first | refine v_if_neB hX 26 qX12_found_19 rfl (fun q19 => ?_) (fun q19 => ?_) | refine v_if_ne hX 26 qX12_found_19 rfl (fun q19 => ?_) (fun q19 => ?_)
    · have hA0 : 0 < tn (allI (sB E)) := by
        rw [tA]
        exact Nat.pos_of_ne_zero (fun z => q19 (by rw [eA, z]; rfl))
      refine v_aload_n hX rfl qX12_found_26 ?_
      refine v_iload_n hX rfl qX12_found_27 ?_
      refine v_callVq hX hR k_X12_346 (hm.kd 38 rfl) (m_judges (by exact hc) _) rfl (Nat.le_of_ble_eq_true rfl) rfl (Nat.le_of_ble_eq_true rfl) ⟨Nat.le_of_ble_eq_true rfl, Nat.le_of_ble_eq_true rfl⟩ qX12_found_28 ?_
      rintro _ _ ⟨rfl, σ, J, rfl, hm2, hk2, hjs⟩
      refine v_istore_n hX (Nat.le_of_ble_eq_true rfl) rfl (ls' := [some _, some _, some _, some _]) rfl qX12_found_31 ?_
      refine v_iload_n hX rfl qX12_found_32 ?_
      refine v_iconst hX li_n1 qX12_found_33 ?_
      refine v_icmp_geS hX 43 qX12_found_34 rfl (fun q34 => ?_) (fun q34 => ?_)
      · have hjc : jCnd E s := (judge_c hok).mp q34
        obtain ⟨j, hj, rfl⟩ := rng_ex 3 (by omega) hjc.1
        have hjs := hjs hjc
        rw [tn_nI (show j < 2000000 by omega)] at hjs
        obtain ⟨JS, hJS, eJS⟩ := jSum_in hok (j := j) (by omega)
        refine v_aload_n hX rfl qX12_found_43 ?_
        refine v_getIv hX g_X12_343 (Or.inl rfl) (hm.kd 38 rfl) (show _ = jSum E j from hjs) qX12_found_44 ?_
        refine v_i2l hX qX12_found_47 ?_
        refine v_eqL (i2l_in eJS (by omega)) ?_
        refine v_aload_n hX rfl qX12_found_48 ?_
        refine v_callVq hX hR k_X12_320 (hm.kd 38 rfl) (m_onCells (by exact hm2)) rfl (Nat.le_of_ble_eq_true rfl) rfl (Nat.le_of_ble_eq_true rfl) ⟨Nat.le_of_ble_eq_true rfl, Nat.le_of_ble_eq_true rfl⟩ qX12_found_49 ?_
        rintro _ _ ⟨rfl, rfl⟩
        refine v_aload_n hX rfl qX12_found_52 ?_
        refine v_getIv hX g_X12_108 (Or.inl rfl) (hm.kd 38 rfl) (show _ = sB E 0 2 by have z := congrFun (congrFun hm2.2.2.2.1 0) 2; exact z) qX12_found_53 ?_
        refine v_iadd hX qX12_found_56 ?_
        refine v_eqI (show _ = allI (sB E) from rfl) ?_
        refine v_i2l hX qX12_found_57 ?_
        refine v_eqL (i2l_in eA (by omega)) ?_
        refine v_iload_n hX rfl qX12_found_58 ?_
        refine v_callSq hX hR k_X12_323 (m_lowest (a := tn (jSum E j)) (b := tn (allI (sB E))) (by rw [eJS, show tn (nI JS) = JS from nI_clamp (by omega)]; omega) (by omega) (by exact hA0) _) rfl (Nat.le_of_ble_eq_true rfl) rfl (Nat.le_of_ble_eq_true rfl) ⟨Nat.le_of_ble_eq_true rfl, Nat.le_of_ble_eq_true rfl⟩ qX12_found_59 ?_
        rintro _ _ ⟨rfl, rfl⟩
        refine v_lreturn hX qX12_found_62 (hP _ _ ?_)
        first | exact ⟨by rw [foundI, if_neg hjc]; rfl, σ, J, rfl, hm2, hk2⟩ | exact ⟨by rw [foundI, if_pos hjc, tn_nI (show j < 2000000 by omega), if_pos ⟨q7, hA0⟩], σ, J, rfl, hm2, hk2⟩
      · have hjc : ¬ jCnd E s := fun z => absurd ((judge_c hok).mpr z) (Int32.not_le.mpr q34)
        refine v_ldc2 hX c_X12_327 qX12_found_37 ?_
        refine v_goto hX 62 qX12_found_40 rfl ?_
        refine v_lreturn hX qX12_found_62 (hP _ _ ?_)
        first | exact ⟨by rw [foundI, if_neg hjc]; rfl, σ, J, rfl, hm2, hk2⟩ | exact ⟨by rw [foundI, if_pos hjc, tn_nI (show j < 2000000 by omega), if_pos ⟨q7, hA0⟩], σ, J, rfl, hm2, hk2⟩
    · have hA0 : ¬ 0 < tn (allI (sB E)) := fun z => by
        rw [tA] at z; rw [eA] at q19
        exact nI_ne0 z (by omega) q19
      refine v_ldc2 hX c_X12_327 qX12_found_22 ?_
      refine v_lreturn hX qX12_found_25 (hP _ _ ?_)
      have hno : foundI E s q = NOI := by
        unfold foundI
        split
        · first | rw [if_neg (fun z => q7 z.1)] | rw [if_neg (fun z => hA0 z.2)]
        · rfl
      rw [hno]
      exact ⟨rfl, h.1, h.2.2.1, rfl, hc, fun a _ => rfl⟩
