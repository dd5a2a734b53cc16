/-! the next look: the class way through cells and lookers, and what it comes to -/
theorem kcl_no : ∀ a, a < 38 → ∀ c, c ∈ [1, 2, 7, 4, 8, 3] → ¬ kTC[a]? = some c := by decide +kernel
theorem kcl_in (k : Nat) : kcl k ∈ [1, 2, 7, 4, 8, 3] := by
  unfold kcl
  split <;> simp
/-- a looker lies behind the class' own cells -/
theorem eye38 {h : AHp} (hs : ShC h) {a k : Nat} (hk : Kd h a (kcl k)) : 38 ≤ a := by
  refine Nat.le_of_not_lt fun hlt => ?_
  have hl : a < kTC.length := hlt
  have h1 : kTC[a]? = some kTC[a] := List.getElem?_eq_getElem hl
  have h2 := hs.2.1 a _ h1
  refine kcl_no a hlt _ (kcl_in k) ?_
  rw [h1, ← h2, hk.1]
theorem Pty.fr {h : AHp} (hs : ShC h) {m : Nat} {e kd : Nat → Nat} {nu : Nat → Int32} (hp : Pty h m e kd nu) {σ : Nat → Nat → Int32} (h1 : σ 0 5 = hpI h 0 5) (h2 : ∀ a, 38 ≤ a → σ a 0 = hpI h a 0) : Pty (σ, h.2) m e kd nu := by
  refine ⟨h1.trans hp.1, hp.2.1, fun i hi => ?_⟩
  obtain ⟨g1, g2, g3, g4⟩ := hp.2.2 i hi
  exact ⟨g1, g2, g3, (h2 (e i) (eye38 hs g3)).trans g4⟩
def stW (r : Nat → Int32) (pl : Int32) (n : Nat) (s : Int32 × Int32 × Int32) : Int32 × Int32 × Int32 := if s.2.2 < r n ∨ (r n = s.2.2 ∧ nI n < s.1) then (nI n, pl, r n) else s
def wpS (r : Nat → Int32) (pl : Int32) : Nat → Int32 × Int32 × Int32 → Int32 × Int32 × Int32
  | 0, s => s
  | n + 1, s => stW r pl n (wpS r pl n s)
def chS (TV : TVt) (m : Nat) (kd : Nat → Nat) (nu : Nat → Int32) (b : Nat → Nat → Int32) : Nat → Int32 × Int32 × Int32
  | 0 => (-1, -1, 0)
  | n + 1 => if 0 < b 1 n then wpS (fun i => rateB TV b (kd i) (nu i) n) (nI n) m (chS TV m kd nu b n) else chS TV m kd nu b n
def chB (TV : TVt) (m : Nat) (kd : Nat → Nat) (nu : Nat → Int32) (b : Nat → Nat → Int32) : Int32 × Int32 × Int32 := chS TV m kd nu b 48
def FrC0 (h : AHp) (σ : Nat → Nat → Int32) : Prop := ∀ a k, ¬ (a = 0 ∧ 10 ≤ k) → σ a k = hpI h a k
def FrC (h : AHp) (σ : Nat → Nat → Int32) : Prop := ∀ a k, (a < 20 ∨ 25 < a) → ¬ (a = 17 ∧ (k = 5 ∨ 10 ≤ k)) → ¬ (a = 0 ∧ 10 ≤ k) → σ a k = hpI h a k
theorem qX11_weighParty_0 : Dq cX11_weighParty 0 (.iconst 0) 1 1 := ⟨by decide +kernel, rfl⟩
theorem qX11_weighParty_1 : Dq cX11_weighParty 1 (.istore_n 3) 1 2 := ⟨by decide +kernel, rfl⟩
theorem qX11_weighParty_2 : Dq cX11_weighParty 2 (.iload_n 3) 1 3 := ⟨by decide +kernel, rfl⟩
theorem qX11_weighParty_3 : Dq cX11_weighParty 3 (.aload_n 0) 1 4 := ⟨by decide +kernel, rfl⟩
theorem qX11_weighParty_4 : Dq cX11_weighParty 4 (.getfield 134) 3 7 := ⟨by decide +kernel, rfl⟩
theorem qX11_weighParty_7 : Dq cX11_weighParty 7 (.if_icmp .ge 83) 3 10 := ⟨by decide +kernel, rfl⟩
theorem qX11_weighParty_10 : Dq cX11_weighParty 10 (.aload_n 0) 1 11 := ⟨by decide +kernel, rfl⟩
theorem qX11_weighParty_11 : Dq cX11_weighParty 11 (.iload_n 3) 1 12 := ⟨by decide +kernel, rfl⟩
theorem qX11_weighParty_12 : Dq cX11_weighParty 12 (.invokevirtual 141) 3 15 := ⟨by decide +kernel, rfl⟩
theorem qX11_weighParty_15 : Dq cX11_weighParty 15 (.astore 4) 2 17 := ⟨by decide +kernel, rfl⟩
theorem qX11_weighParty_17 : Dq cX11_weighParty 17 (.aload 4) 2 19 := ⟨by decide +kernel, rfl⟩
theorem qX11_weighParty_19 : Dq cX11_weighParty 19 (.ifnull 65) 3 22 := ⟨by decide +kernel, rfl⟩
theorem qX11_weighParty_22 : Dq cX11_weighParty 22 (.iload_n 2) 1 23 := ⟨by decide +kernel, rfl⟩
theorem qX11_weighParty_23 : Dq cX11_weighParty 23 (.aload_n 0) 1 24 := ⟨by decide +kernel, rfl⟩
theorem qX11_weighParty_24 : Dq cX11_weighParty 24 (.aload 4) 2 26 := ⟨by decide +kernel, rfl⟩
theorem qX11_weighParty_26 : Dq cX11_weighParty 26 (.invokevirtual 145) 3 29 := ⟨by decide +kernel, rfl⟩
theorem qX11_weighParty_29 : Dq cX11_weighParty 29 (.invokestatic 155) 3 32 := ⟨by decide +kernel, rfl⟩
theorem qX11_weighParty_32 : Dq cX11_weighParty 32 (.aload 4) 2 34 := ⟨by decide +kernel, rfl⟩
theorem qX11_weighParty_34 : Dq cX11_weighParty 34 (.invokestatic 149) 3 37 := ⟨by decide +kernel, rfl⟩
theorem qX11_weighParty_37 : Dq cX11_weighParty 37 (.invokestatic 158) 3 40 := ⟨by decide +kernel, rfl⟩
theorem qX11_weighParty_40 : Dq cX11_weighParty 40 (.istore 5) 2 42 := ⟨by decide +kernel, rfl⟩
theorem qX11_weighParty_42 : Dq cX11_weighParty 42 (.iload 5) 2 44 := ⟨by decide +kernel, rfl⟩
theorem qX11_weighParty_44 : Dq cX11_weighParty 44 (.aload_n 0) 1 45 := ⟨by decide +kernel, rfl⟩
theorem qX11_weighParty_45 : Dq cX11_weighParty 45 (.getfield 185) 3 48 := ⟨by decide +kernel, rfl⟩
theorem qX11_weighParty_48 : Dq cX11_weighParty 48 (.if_icmp .gt 20) 3 51 := ⟨by decide +kernel, rfl⟩
theorem qX11_weighParty_51 : Dq cX11_weighParty 51 (.iload 5) 2 53 := ⟨by decide +kernel, rfl⟩
theorem qX11_weighParty_53 : Dq cX11_weighParty 53 (.aload_n 0) 1 54 := ⟨by decide +kernel, rfl⟩
theorem qX11_weighParty_54 : Dq cX11_weighParty 54 (.getfield 185) 3 57 := ⟨by decide +kernel, rfl⟩
theorem qX11_weighParty_57 : Dq cX11_weighParty 57 (.if_icmp .ne 27) 3 60 := ⟨by decide +kernel, rfl⟩
theorem qX11_weighParty_60 : Dq cX11_weighParty 60 (.iload_n 3) 1 61 := ⟨by decide +kernel, rfl⟩
theorem qX11_weighParty_61 : Dq cX11_weighParty 61 (.aload_n 0) 1 62 := ⟨by decide +kernel, rfl⟩
theorem qX11_weighParty_62 : Dq cX11_weighParty 62 (.getfield 55) 3 65 := ⟨by decide +kernel, rfl⟩
theorem qX11_weighParty_65 : Dq cX11_weighParty 65 (.if_icmp .ge 19) 3 68 := ⟨by decide +kernel, rfl⟩
theorem qX11_weighParty_68 : Dq cX11_weighParty 68 (.aload_n 0) 1 69 := ⟨by decide +kernel, rfl⟩
theorem qX11_weighParty_69 : Dq cX11_weighParty 69 (.iload_n 3) 1 70 := ⟨by decide +kernel, rfl⟩
theorem qX11_weighParty_70 : Dq cX11_weighParty 70 (.putfield 55) 3 73 := ⟨by decide +kernel, rfl⟩
theorem qX11_weighParty_73 : Dq cX11_weighParty 73 (.aload_n 0) 1 74 := ⟨by decide +kernel, rfl⟩
theorem qX11_weighParty_74 : Dq cX11_weighParty 74 (.iload_n 1) 1 75 := ⟨by decide +kernel, rfl⟩
theorem qX11_weighParty_75 : Dq cX11_weighParty 75 (.putfield 59) 3 78 := ⟨by decide +kernel, rfl⟩
theorem qX11_weighParty_78 : Dq cX11_weighParty 78 (.aload_n 0) 1 79 := ⟨by decide +kernel, rfl⟩
theorem qX11_weighParty_79 : Dq cX11_weighParty 79 (.iload 5) 2 81 := ⟨by decide +kernel, rfl⟩
theorem qX11_weighParty_81 : Dq cX11_weighParty 81 (.putfield 185) 3 84 := ⟨by decide +kernel, rfl⟩
theorem qX11_weighParty_84 : Dq cX11_weighParty 84 (.iinc 3 1) 3 87 := ⟨by decide +kernel, rfl⟩
theorem qX11_weighParty_87 : Dq cX11_weighParty 87 (.goto (-85)) 3 90 := ⟨by decide +kernel, rfl⟩
theorem qX11_weighParty_90 : Dq cX11_weighParty 90 (.return_) 1 91 := ⟨by decide +kernel, rfl⟩
set_option maxRecDepth 100000 in
set_option maxHeartbeats 4000000 in
theorem c_weighParty {G : Glb} {h : AHp} (hs : ShC h) {m : Nat} {e kd : Nat → Nat} {nu : Nat → Int32} (hp : Pty h m e kd nu) {dp se sh : Int32} (h10 : hpI h 17 10 = dp) (h11 : hpI h 17 11 = bz (¬ se = 0)) (h12 : hpI h 17 12 = sh) {q : Nat} (od : Int32) {rt : Nat → Int32} (hrt : ∀ i, i < m → rt i = if 0 < tkB (kd i) (nu i) then od * (if se = 0 then bnd (fdR (kd i) (nu i) dp sh) 0 100 else 0) / 100 / tkB (kd i) (nu i) else 0) {s0 : Int32 × Int32 × Int32} (g10 : hpI h 0 10 = s0.1) (g11 : hpI h 0 11 = s0.2.1) (g12 : hpI h 0 12 = s0.2.2)  : CP G m_X11_weighParty 5 0 0 [.ref 0, .int (nI q), .int od] h (fun r h' => r = none ∧ ∃ σ, h' = (σ, h.2) ∧ FrC0 h σ ∧ σ 0 10 = (wpS rt (nI q) m s0).1 ∧ σ 0 11 = (wpS rt (nI q) m s0).2.1 ∧ σ 0 12 = (wpS rt (nI q) m s0).2.2) := by
  suffices key : ∀ P : Option Value → AHp → Prop, (∀ r h', (r = none ∧ ∃ σ, h' = (σ, h.2) ∧ FrC0 h σ ∧ σ 0 10 = (wpS rt (nI q) m s0).1 ∧ σ 0 11 = (wpS rt (nI q) m s0).2.1 ∧ σ 0 12 = (wpS rt (nI q) m s0).2.2) → P r h') → CP G m_X11_weighParty 5 0 0 [.ref 0, .int (nI q), .int od] h P from key _ (fun _ _ z => z)
  intro P hP
  refine CP.of (by decide +kernel) (Nat.le_of_ble_eq_true rfl) fun X hX hR hnm => ?_
  show V X G 6 0 0 _ 0 [some (.ref 0), some (.int (nI q)), some (.int od), none, none, none] [] h
  have hm6 := hp.2.1
  refine v_iconst hX li_0 qX11_weighParty_0 ?_
  refine v_istore_n hX (Nat.le_of_ble_eq_true rfl) rfl (ls' := [some _, some _, some _, some _, none, none]) rfl qX11_weighParty_1 ?_
  have L2 : ∀ (mz : Nat) (i : Nat) (σ : Nat → Nat → Int32), m - i = mz → (i ≤ m) → (FrC0 h σ) → (σ 0 10 = (wpS rt (nI q) i s0).1) → (σ 0 11 = (wpS rt (nI q) i s0).2.1) → (σ 0 12 = (wpS rt (nI q) i s0).2.2) → V X G 6 0 0 (QM X G P 0 0) 2 [some (.ref 0), some (.int (nI q)), some (.int od), some (.int (nI i)), none, none] [] (σ, h.2) := by
    intro mz
    induction mz using Nat.strongRecOn with
    | _ mz ih =>
    intro i σ hm hi hf k10 k11 k12
    have hp2 : Pty (σ, h.2) m e kd nu := hp.fr hs (hf 0 5 (by omega)) (fun a ha => hf a 0 (by omega))
    refine v_iload_n hX rfl qX11_weighParty_2 ?_
    refine v_aload_n hX rfl qX11_weighParty_3 ?_
    refine v_getIv hX g_X11_134 (Or.inl rfl) (hs.kd 0 rfl) hp2.1 qX11_weighParty_4 ?_
    refine v_icmp_geS hX 90 qX11_weighParty_7 rfl (fun q7 => ?_) (fun q7 => ?_)
    · have e1 : i = m := Nat.le_antisymm hi (nI_le' (by omega) (by omega) q7); subst e1
      refine v_return hX qX11_weighParty_90 (hP _ _ ?_)
      exact ⟨rfl, σ, rfl, hf, k10, k11, k12⟩
    · have hl := nI_lt' (by omega) (by omega) q7
      refine v_aload_n hX rfl qX11_weighParty_10 ?_
      refine v_iload_n hX rfl qX11_weighParty_11 ?_
      refine v_callVq hX hR k_X11_141 (hs.kd 0 rfl) (c_lookerAt (by exact hs) (by exact hp2) _) rfl (Nat.le_of_ble_eq_true rfl) rfl (Nat.le_of_ble_eq_true rfl) ⟨Nat.le_of_ble_eq_true rfl, Nat.le_of_ble_eq_true rfl⟩ qX11_weighParty_12 ?_
      rintro _ _ ⟨⟨j, hj, hij, rfl⟩ | ⟨hn, rfl⟩, rfl⟩
      · have hij2 : i = j := (nI_eq (by omega) (by omega)).mp hij
        subst hij2
        refine v_astore hX (Nat.le_of_ble_eq_true rfl) rfl (ls' := [some _, some _, some _, some _, some _, none]) rfl qX11_weighParty_15 ?_
        refine v_aload hX rfl qX11_weighParty_17 ?_
        refine v_ifnull hX qX11_weighParty_19 ?_
        refine v_iload_n hX rfl qX11_weighParty_22 ?_
        refine v_aload_n hX rfl qX11_weighParty_23 ?_
        refine v_aload hX rfl qX11_weighParty_24 ?_
        refine v_callVq hX hR k_X11_145 (hs.kd 0 rfl) (c_goodHere (by exact hs) (by exact (hp2.2.2 i hl).2.1) (by exact (hp2.2.2 i hl).2.2.1) (by exact (hp2.2.2 i hl).2.2.2)) rfl (Nat.le_of_ble_eq_true rfl) rfl (Nat.le_of_ble_eq_true rfl) ⟨Nat.le_of_ble_eq_true rfl, Nat.le_of_ble_eq_true rfl⟩ qX11_weighParty_26 ?_
        rintro _ _ ⟨rfl, rfl⟩
        refine v_callSq hX hR k_X11_155 (c_gainOf _ _) rfl (Nat.le_of_ble_eq_true rfl) rfl (Nat.le_of_ble_eq_true rfl) ⟨Nat.le_of_ble_eq_true rfl, Nat.le_of_ble_eq_true rfl⟩ qX11_weighParty_29 ?_
        rintro _ _ ⟨rfl, rfl⟩
        refine v_aload hX rfl qX11_weighParty_32 ?_
        refine v_callSq hX hR k_X11_149 (c_takesOf (by exact hs) (by exact (hp2.2.2 i hl).2.1) (by exact (hp2.2.2 i hl).2.2.1) (by exact (hp2.2.2 i hl).2.2.2)) rfl (Nat.le_of_ble_eq_true rfl) rfl (Nat.le_of_ble_eq_true rfl) ⟨Nat.le_of_ble_eq_true rfl, Nat.le_of_ble_eq_true rfl⟩ qX11_weighParty_34 ?_
        rintro _ _ ⟨rfl, rfl⟩
        refine v_callSq hX hR k_X11_158 (c_rateOf _ _) rfl (Nat.le_of_ble_eq_true rfl) rfl (Nat.le_of_ble_eq_true rfl) ⟨Nat.le_of_ble_eq_true rfl, Nat.le_of_ble_eq_true rfl⟩ qX11_weighParty_37 ?_
        rintro _ _ ⟨rfl, rfl⟩
        refine v_eqI (show _ = rt i by
          rw [hrt i hl]
          show (if 0 < tkB (kd i) (nu i) then od * (if σ 17 11 = 0 then bnd (fdR (kd i) (nu i) (σ 17 10) (σ 17 12)) 0 100 else 0) / 100 / tkB (kd i) (nu i) else 0) = _
          rw [hf 17 10 (by omega), hf 17 11 (by omega), hf 17 12 (by omega), h10, h11, h12]
          by_cases hse : se = 0
          · rw [bz_f (fun z => z hse), if_pos rfl, if_pos hse]
          · rw [bz_t hse, if_neg (show ¬ (1 : Int32) = 0 by decide), if_neg hse]) ?_
        refine v_istore hX (Nat.le_of_ble_eq_true rfl) rfl (ls' := [some _, some _, some _, some _, some _, some _]) rfl qX11_weighParty_40 ?_
        refine v_iload hX rfl qX11_weighParty_42 ?_
        refine v_aload_n hX rfl qX11_weighParty_44 ?_
        refine v_getIv hX g_X11_185 (Or.inl rfl) (hs.kd 0 rfl) k12 qX11_weighParty_45 ?_
        refine v_icmp_gtS hX 68 qX11_weighParty_48 rfl (fun q48 => ?_) (fun q48 => ?_)
        · skip
          refine v_aload_n hX rfl qX11_weighParty_68 ?_
          refine v_iload_n hX rfl qX11_weighParty_69 ?_
          refine v_putI hX p_X11_55 (hs.kd 0 rfl) (Or.inl rfl) qX11_weighParty_70 ?_
          refine v_aload_n hX rfl qX11_weighParty_73 ?_
          refine v_iload_n hX rfl qX11_weighParty_74 ?_
          refine v_putI hX p_X11_59 (hs.kd 0 rfl) (Or.inl rfl) qX11_weighParty_75 ?_
          refine v_aload_n hX rfl qX11_weighParty_78 ?_
          refine v_iload hX rfl qX11_weighParty_79 ?_
          refine v_putI hX p_X11_185 (hs.kd 0 rfl) (Or.inl rfl) qX11_weighParty_81 ?_
          refine v_iinc hX rfl (by first | exact ii_nI _ | exact ii_1 _) (Nat.le_of_ble_eq_true rfl) rfl (ls' := [some _, some _, some _, some _, some _, some _]) rfl qX11_weighParty_84 ?_
          refine v_goto hX 2 qX11_weighParty_87 rfl ?_
          refine v_forget (ls' := [_, _, _, _, none, none]) ⟨Or.inr rfl, Or.inr rfl, Or.inr rfl, Or.inr rfl, Or.inl rfl, Or.inl rfl, trivial⟩ ?_
          first | (have e1 : wpS rt (nI q) (i + 1) s0 = (nI i, nI q, rt i) := if_pos (by first | exact Or.inl q48 | exact Or.inr ⟨q57, q65⟩); exact ih _ (by omega) (i + 1) (stI (stI (stI (σ, h.2) 0 10 (nI i)) 0 11 (nI q)) 0 12 (rt i)).1 rfl (by omega) (fun a k hak => by show hpI (stI _ _ _ _) _ _ = _; rw [hpI_st, if_neg (by omega), hpI_st, if_neg (by omega), hpI_st, if_neg (by omega)]; exact hf a k hak) (by rw [e1]; rfl) (by rw [e1]; rfl) (by rw [e1]; rfl)) | (have e1 : wpS rt (nI q) (i + 1) s0 = wpS rt (nI q) i s0 := if_neg (by rintro (z | ⟨z1, z2⟩) <;> first | exact absurd z (Int32.not_lt.mpr q48) | exact q57 z1 | exact absurd z2 (Int32.not_lt.mpr q65)); exact ih _ (by omega) (i + 1) σ rfl (by omega) hf (by rw [e1]; exact k10) (by rw [e1]; exact k11) (by rw [e1]; exact k12))
        · skip
          refine v_iload hX rfl qX11_weighParty_51 ?_
          refine v_aload_n hX rfl qX11_weighParty_53 ?_
          refine v_getIv hX g_X11_185 (Or.inl rfl) (hs.kd 0 rfl) k12 qX11_weighParty_54 ?_
          refine v_icmp_ne hX 84 qX11_weighParty_57 rfl (fun q57 => ?_) (fun q57 => ?_)
          · skip
            refine v_iinc hX rfl (by first | exact ii_nI _ | exact ii_1 _) (Nat.le_of_ble_eq_true rfl) rfl (ls' := [some _, some _, some _, some _, some _, some _]) rfl qX11_weighParty_84 ?_
            refine v_goto hX 2 qX11_weighParty_87 rfl ?_
            refine v_forget (ls' := [_, _, _, _, none, none]) ⟨Or.inr rfl, Or.inr rfl, Or.inr rfl, Or.inr rfl, Or.inl rfl, Or.inl rfl, trivial⟩ ?_
            first | (have e1 : wpS rt (nI q) (i + 1) s0 = (nI i, nI q, rt i) := if_pos (by first | exact Or.inl q48 | exact Or.inr ⟨q57, q65⟩); exact ih _ (by omega) (i + 1) (stI (stI (stI (σ, h.2) 0 10 (nI i)) 0 11 (nI q)) 0 12 (rt i)).1 rfl (by omega) (fun a k hak => by show hpI (stI _ _ _ _) _ _ = _; rw [hpI_st, if_neg (by omega), hpI_st, if_neg (by omega), hpI_st, if_neg (by omega)]; exact hf a k hak) (by rw [e1]; rfl) (by rw [e1]; rfl) (by rw [e1]; rfl)) | (have e1 : wpS rt (nI q) (i + 1) s0 = wpS rt (nI q) i s0 := if_neg (by rintro (z | ⟨z1, z2⟩) <;> first | exact absurd z (Int32.not_lt.mpr q48) | exact q57 z1 | exact absurd z2 (Int32.not_lt.mpr q65)); exact ih _ (by omega) (i + 1) σ rfl (by omega) hf (by rw [e1]; exact k10) (by rw [e1]; exact k11) (by rw [e1]; exact k12))
          · skip
            refine v_iload_n hX rfl qX11_weighParty_60 ?_
            refine v_aload_n hX rfl qX11_weighParty_61 ?_
            refine v_getIv hX g_X11_55 (Or.inl rfl) (hs.kd 0 rfl) k10 qX11_weighParty_62 ?_
            refine v_icmp_geS hX 84 qX11_weighParty_65 rfl (fun q65 => ?_) (fun q65 => ?_)
            · skip
              refine v_iinc hX rfl (by first | exact ii_nI _ | exact ii_1 _) (Nat.le_of_ble_eq_true rfl) rfl (ls' := [some _, some _, some _, some _, some _, some _]) rfl qX11_weighParty_84 ?_
              refine v_goto hX 2 qX11_weighParty_87 rfl ?_
              refine v_forget (ls' := [_, _, _, _, none, none]) ⟨Or.inr rfl, Or.inr rfl, Or.inr rfl, Or.inr rfl, Or.inl rfl, Or.inl rfl, trivial⟩ ?_
              first | (have e1 : wpS rt (nI q) (i + 1) s0 = (nI i, nI q, rt i) := if_pos (by first | exact Or.inl q48 | exact Or.inr ⟨q57, q65⟩); exact ih _ (by omega) (i + 1) (stI (stI (stI (σ, h.2) 0 10 (nI i)) 0 11 (nI q)) 0 12 (rt i)).1 rfl (by omega) (fun a k hak => by show hpI (stI _ _ _ _) _ _ = _; rw [hpI_st, if_neg (by omega), hpI_st, if_neg (by omega), hpI_st, if_neg (by omega)]; exact hf a k hak) (by rw [e1]; rfl) (by rw [e1]; rfl) (by rw [e1]; rfl)) | (have e1 : wpS rt (nI q) (i + 1) s0 = wpS rt (nI q) i s0 := if_neg (by rintro (z | ⟨z1, z2⟩) <;> first | exact absurd z (Int32.not_lt.mpr q48) | exact q57 z1 | exact absurd z2 (Int32.not_lt.mpr q65)); exact ih _ (by omega) (i + 1) σ rfl (by omega) hf (by rw [e1]; exact k10) (by rw [e1]; exact k11) (by rw [e1]; exact k12))
            · skip
              refine v_aload_n hX rfl qX11_weighParty_68 ?_
              refine v_iload_n hX rfl qX11_weighParty_69 ?_
              refine v_putI hX p_X11_55 (hs.kd 0 rfl) (Or.inl rfl) qX11_weighParty_70 ?_
              refine v_aload_n hX rfl qX11_weighParty_73 ?_
              refine v_iload_n hX rfl qX11_weighParty_74 ?_
              refine v_putI hX p_X11_59 (hs.kd 0 rfl) (Or.inl rfl) qX11_weighParty_75 ?_
              refine v_aload_n hX rfl qX11_weighParty_78 ?_
              refine v_iload hX rfl qX11_weighParty_79 ?_
              refine v_putI hX p_X11_185 (hs.kd 0 rfl) (Or.inl rfl) qX11_weighParty_81 ?_
              refine v_iinc hX rfl (by first | exact ii_nI _ | exact ii_1 _) (Nat.le_of_ble_eq_true rfl) rfl (ls' := [some _, some _, some _, some _, some _, some _]) rfl qX11_weighParty_84 ?_
              refine v_goto hX 2 qX11_weighParty_87 rfl ?_
              refine v_forget (ls' := [_, _, _, _, none, none]) ⟨Or.inr rfl, Or.inr rfl, Or.inr rfl, Or.inr rfl, Or.inl rfl, Or.inl rfl, trivial⟩ ?_
              first | (have e1 : wpS rt (nI q) (i + 1) s0 = (nI i, nI q, rt i) := if_pos (by first | exact Or.inl q48 | exact Or.inr ⟨q57, q65⟩); exact ih _ (by omega) (i + 1) (stI (stI (stI (σ, h.2) 0 10 (nI i)) 0 11 (nI q)) 0 12 (rt i)).1 rfl (by omega) (fun a k hak => by show hpI (stI _ _ _ _) _ _ = _; rw [hpI_st, if_neg (by omega), hpI_st, if_neg (by omega), hpI_st, if_neg (by omega)]; exact hf a k hak) (by rw [e1]; rfl) (by rw [e1]; rfl) (by rw [e1]; rfl)) | (have e1 : wpS rt (nI q) (i + 1) s0 = wpS rt (nI q) i s0 := if_neg (by rintro (z | ⟨z1, z2⟩) <;> first | exact absurd z (Int32.not_lt.mpr q48) | exact q57 z1 | exact absurd z2 (Int32.not_lt.mpr q65)); exact ih _ (by omega) (i + 1) σ rfl (by omega) hf (by rw [e1]; exact k10) (by rw [e1]; exact k11) (by rw [e1]; exact k12))
      · exact absurd ⟨nI_pos' (by omega), nI_lt hl (by omega)⟩ hn
  exact L2 _ 0 h.1 rfl (by omega) (fun a k _ => rfl) g10 g11 g12
theorem qX11_choose_0 : Dq cX11_choose 0 (.aload_n 0) 1 1 := ⟨by decide +kernel, rfl⟩
theorem qX11_choose_1 : Dq cX11_choose 1 (.iconst (-1)) 1 2 := ⟨by decide +kernel, rfl⟩
theorem qX11_choose_2 : Dq cX11_choose 2 (.putfield 55) 3 5 := ⟨by decide +kernel, rfl⟩
theorem qX11_choose_5 : Dq cX11_choose 5 (.aload_n 0) 1 6 := ⟨by decide +kernel, rfl⟩
theorem qX11_choose_6 : Dq cX11_choose 6 (.iconst (-1)) 1 7 := ⟨by decide +kernel, rfl⟩
theorem qX11_choose_7 : Dq cX11_choose 7 (.putfield 59) 3 10 := ⟨by decide +kernel, rfl⟩
theorem qX11_choose_10 : Dq cX11_choose 10 (.aload_n 0) 1 11 := ⟨by decide +kernel, rfl⟩
theorem qX11_choose_11 : Dq cX11_choose 11 (.iconst 0) 1 12 := ⟨by decide +kernel, rfl⟩
theorem qX11_choose_12 : Dq cX11_choose 12 (.putfield 185) 3 15 := ⟨by decide +kernel, rfl⟩
theorem qX11_choose_15 : Dq cX11_choose 15 (.iconst 0) 1 16 := ⟨by decide +kernel, rfl⟩
theorem qX11_choose_16 : Dq cX11_choose 16 (.istore_n 2) 1 17 := ⟨by decide +kernel, rfl⟩
theorem qX11_choose_17 : Dq cX11_choose 17 (.iload_n 2) 1 18 := ⟨by decide +kernel, rfl⟩
theorem qX11_choose_18 : Dq cX11_choose 18 (.bipush 48) 2 20 := ⟨by decide +kernel, rfl⟩
theorem qX11_choose_20 : Dq cX11_choose 20 (.if_icmp .ge 34) 3 23 := ⟨by decide +kernel, rfl⟩
theorem qX11_choose_23 : Dq cX11_choose 23 (.aload_n 1) 1 24 := ⟨by decide +kernel, rfl⟩
theorem qX11_choose_24 : Dq cX11_choose 24 (.iload_n 2) 1 25 := ⟨by decide +kernel, rfl⟩
theorem qX11_choose_25 : Dq cX11_choose 25 (.invokevirtual 118) 3 28 := ⟨by decide +kernel, rfl⟩
theorem qX11_choose_28 : Dq cX11_choose 28 (.istore_n 3) 1 29 := ⟨by decide +kernel, rfl⟩
theorem qX11_choose_29 : Dq cX11_choose 29 (.iload_n 3) 1 30 := ⟨by decide +kernel, rfl⟩
theorem qX11_choose_30 : Dq cX11_choose 30 (.ifCond .le 18) 3 33 := ⟨by decide +kernel, rfl⟩
theorem qX11_choose_33 : Dq cX11_choose 33 (.aload_n 0) 1 34 := ⟨by decide +kernel, rfl⟩
theorem qX11_choose_34 : Dq cX11_choose 34 (.getfield 38) 3 37 := ⟨by decide +kernel, rfl⟩
theorem qX11_choose_37 : Dq cX11_choose 37 (.aload_n 1) 1 38 := ⟨by decide +kernel, rfl⟩
theorem qX11_choose_38 : Dq cX11_choose 38 (.iload_n 2) 1 39 := ⟨by decide +kernel, rfl⟩
theorem qX11_choose_39 : Dq cX11_choose 39 (.invokevirtual 114) 3 42 := ⟨by decide +kernel, rfl⟩
theorem qX11_choose_42 : Dq cX11_choose 42 (.aload_n 0) 1 43 := ⟨by decide +kernel, rfl⟩
theorem qX11_choose_43 : Dq cX11_choose 43 (.iload_n 2) 1 44 := ⟨by decide +kernel, rfl⟩
theorem qX11_choose_44 : Dq cX11_choose 44 (.iload_n 3) 1 45 := ⟨by decide +kernel, rfl⟩
theorem qX11_choose_45 : Dq cX11_choose 45 (.invokevirtual 384) 3 48 := ⟨by decide +kernel, rfl⟩
theorem qX11_choose_48 : Dq cX11_choose 48 (.iinc 2 1) 3 51 := ⟨by decide +kernel, rfl⟩
theorem qX11_choose_51 : Dq cX11_choose 51 (.goto (-34)) 3 54 := ⟨by decide +kernel, rfl⟩
theorem qX11_choose_54 : Dq cX11_choose 54 (.aload_n 0) 1 55 := ⟨by decide +kernel, rfl⟩
theorem qX11_choose_55 : Dq cX11_choose 55 (.getfield 55) 3 58 := ⟨by decide +kernel, rfl⟩
theorem qX11_choose_58 : Dq cX11_choose 58 (.iconst (-1)) 1 59 := ⟨by decide +kernel, rfl⟩
theorem qX11_choose_59 : Dq cX11_choose 59 (.if_icmp .eq 7) 3 62 := ⟨by decide +kernel, rfl⟩
theorem qX11_choose_62 : Dq cX11_choose 62 (.iconst 1) 1 63 := ⟨by decide +kernel, rfl⟩
theorem qX11_choose_63 : Dq cX11_choose 63 (.goto 4) 3 66 := ⟨by decide +kernel, rfl⟩
theorem qX11_choose_66 : Dq cX11_choose 66 (.iconst 0) 1 67 := ⟨by decide +kernel, rfl⟩
theorem qX11_choose_67 : Dq cX11_choose 67 (.ireturn) 1 68 := ⟨by decide +kernel, rfl⟩
set_option maxRecDepth 100000 in
set_option maxHeartbeats 4000000 in
theorem c_choose {G : Glb} {h : AHp} (hs : ShC h) {cnt : Nat} {TV : Nat → Nat → (Nat → Int32) → Int32} (hru : RuOK h cnt TV) (hca : CaOK h cnt TV) {B : Nat} (hB : isB B) (hbe : BeOK (bv h B) cnt) {m : Nat} {e kd : Nat → Nat} {nu : Nat → Int32} (hp : Pty h m e kd nu)  : CP G m_X11_choose 6 0 0 [.ref 0, .ref B] h (fun r h' => r = some (.int (bz (¬ (chB TV m kd nu (bv h B)).1 = -1))) ∧ ∃ σ, h' = (σ, h.2) ∧ FrC h σ ∧ CaOK (σ, h.2) cnt TV ∧ σ 0 10 = (chB TV m kd nu (bv h B)).1 ∧ σ 0 11 = (chB TV m kd nu (bv h B)).2.1 ∧ σ 0 12 = (chB TV m kd nu (bv h B)).2.2) := by
  suffices key : ∀ P : Option Value → AHp → Prop, (∀ r h', (r = some (.int (bz (¬ (chB TV m kd nu (bv h B)).1 = -1))) ∧ ∃ σ, h' = (σ, h.2) ∧ FrC h σ ∧ CaOK (σ, h.2) cnt TV ∧ σ 0 10 = (chB TV m kd nu (bv h B)).1 ∧ σ 0 11 = (chB TV m kd nu (bv h B)).2.1 ∧ σ 0 12 = (chB TV m kd nu (bv h B)).2.2) → P r h') → CP G m_X11_choose 6 0 0 [.ref 0, .ref B] h P from key _ (fun _ _ z => z)
  intro P hP
  refine CP.of (by decide +kernel) (Nat.le_of_ble_eq_true rfl) fun X hX hR hnm => ?_
  show V X G 4 0 0 _ 0 [some (.ref 0), some (.ref B), none, none] [] h
  have hB8 : 1 ≤ B ∧ B ≤ 7 := by rcases hB with rfl | rfl | rfl <;> omega
  have hc6 := hru.2.1
  obtain ⟨hrl, hrl5⟩ := hbe.rl hc6
  rw [bv0 (by omega) (by omega)] at hrl5
  have hh3 := hbe.2.2.2.1
  rw [bv0 (by omega) (by omega)] at hh3
  refine v_aload_n hX rfl qX11_choose_0 ?_
  refine v_iconst hX li_n1 qX11_choose_1 ?_
  refine v_putI hX p_X11_55 (hs.kd 0 rfl) (Or.inl rfl) qX11_choose_2 ?_
  refine v_aload_n hX rfl qX11_choose_5 ?_
  refine v_iconst hX li_n1 qX11_choose_6 ?_
  refine v_putI hX p_X11_59 (hs.kd 0 rfl) (Or.inl rfl) qX11_choose_7 ?_
  refine v_aload_n hX rfl qX11_choose_10 ?_
  refine v_iconst hX li_0 qX11_choose_11 ?_
  refine v_putI hX p_X11_185 (hs.kd 0 rfl) (Or.inl rfl) qX11_choose_12 ?_
  refine v_iconst hX li_0 qX11_choose_15 ?_
  refine v_istore_n hX (Nat.le_of_ble_eq_true rfl) rfl (ls' := [some _, some _, some _, none]) rfl qX11_choose_16 ?_
  have L17 : ∀ (mz : Nat) (q : Nat) (σ : Nat → Nat → Int32), 48 - q = mz → (q ≤ 48) → (FrC h σ) → (CaOK (σ, h.2) cnt TV) → (σ 0 10 = (chS TV m kd nu (bv h B) q).1) → (σ 0 11 = (chS TV m kd nu (bv h B) q).2.1) → (σ 0 12 = (chS TV m kd nu (bv h B) q).2.2) → V X G 4 0 0 (QM X G P 0 0) 17 [some (.ref 0), some (.ref B), some (.int (nI q)), none] [] (σ, h.2) := by
    intro mz
    induction mz using Nat.strongRecOn with
    | _ mz ih =>
    intro q σ hm hi hf hca1 k10 k11 k12
    have hbv : bv (σ, h.2) B = bv h B := bv_ext (fun i k ho => by
      have : i ≤ 2 := by rcases ho with ⟨e, -⟩ | ⟨e, -⟩ <;> omega
      exact hf (B + i) k (by omega) (by omega) (by omega))
    refine v_iload_n hX rfl qX11_choose_17 ?_
    refine v_bipush hX lb_48 qX11_choose_18 ?_
    refine v_icmp_geS hX 54 qX11_choose_20 rfl (fun q20 => ?_) (fun q20 => ?_)
    · have e1 := geN (N := 48) rfl hi q20; subst e1
      refine v_aload_n hX rfl qX11_choose_54 ?_
      refine v_getIv hX g_X11_55 (Or.inl rfl) (hs.kd 0 rfl) k10 qX11_choose_55 ?_
      refine v_iconst hX li_n1 qX11_choose_58 ?_
      refine v_icmp_eq hX 66 qX11_choose_59 rfl (fun q59 => ?_) (fun q59 => ?_)
      · skip
        refine v_iconst hX li_0 qX11_choose_66 ?_
        refine v_zreturn hX (by first | exact Or.inl rfl | exact Or.inr rfl | exact bz01 _) qX11_choose_67 (hP _ _ ?_)
        refine ⟨?_, σ, rfl, hf, hca1, k10, k11, k12⟩
        first | exact rz (bz_t q59) | exact rz (bz_f (fun z => z q59))
      · skip
        refine v_iconst hX li_1 qX11_choose_62 ?_
        refine v_goto hX 67 qX11_choose_63 rfl ?_
        refine v_zreturn hX (by first | exact Or.inl rfl | exact Or.inr rfl | exact bz01 _) qX11_choose_67 (hP _ _ ?_)
        refine ⟨?_, σ, rfl, hf, hca1, k10, k11, k12⟩
        first | exact rz (bz_t q59) | exact rz (bz_f (fun z => z q59))
    · have hl := ltN (N := 48) rfl hi q20
      refine v_aload_n hX rfl qX11_choose_23 ?_
      refine v_iload_n hX rfl qX11_choose_24 ?_
      refine v_callVq hX hR k_X11_118 (hs.bk hB) (c_oddsAt (by exact hs) (by exact hB) _) rfl (Nat.le_of_ble_eq_true rfl) rfl (Nat.le_of_ble_eq_true rfl) ⟨Nat.le_of_ble_eq_true rfl, Nat.le_of_ble_eq_true rfl⟩ qX11_choose_25 ?_
      rintro _ _ ⟨rfl, rfl⟩
      refine v_eqI (show _ = bv h B 1 q by rw [oddsA_n hl, hbv]) ?_
      refine v_istore_n hX (Nat.le_of_ble_eq_true rfl) rfl (ls' := [some _, some _, some _, some _]) rfl qX11_choose_28 ?_
      refine v_iload_n hX rfl qX11_choose_29 ?_
      refine v_if_leS hX 48 qX11_choose_30 rfl (fun q30 => ?_) (fun q30 => ?_)
      · skip
        refine v_iinc hX rfl (by first | exact ii_nI _ | exact ii_1 _) (Nat.le_of_ble_eq_true rfl) rfl (ls' := [some _, some _, some _, some _]) rfl qX11_choose_48 ?_
        refine v_goto hX 17 qX11_choose_51 rfl ?_
        refine v_forget (ls' := [_, _, _, none]) ⟨Or.inr rfl, Or.inr rfl, Or.inr rfl, Or.inl rfl, trivial⟩ ?_
        first | (have e1 : chS TV m kd nu (bv h B) (q + 1) = wpS (fun i => rateB TV (bv h B) (kd i) (nu i) q) (nI q) m (chS TV m kd nu (bv h B) q) := if_pos q30; exact ih _ (by omega) (q + 1) σ3 rfl (by omega) (fun a k h1 h2 h3 => (hf3 a k h3).trans ((hfv a k h1 h2).trans (hf a k h1 h2 h3))) (hca2.eq (fun a h1 h2 k hk => hf3 a k (by omega))) (by rw [e1]; exact j10) (by rw [e1]; exact j11) (by rw [e1]; exact j12)) | (have e1 : chS TV m kd nu (bv h B) (q + 1) = chS TV m kd nu (bv h B) q := if_neg (Int32.not_lt.mpr q30); exact ih _ (by omega) (q + 1) σ rfl (by omega) hf hca1 (by rw [e1]; exact k10) (by rw [e1]; exact k11) (by rw [e1]; exact k12))
      · skip
        refine v_aload_n hX rfl qX11_choose_33 ?_
        refine v_getR hX g_X11_38 (hs.kd 0 rfl) (hs.rf 5 rfl) qX11_choose_34 ?_
        refine v_aload_n hX rfl qX11_choose_37 ?_
        refine v_iload_n hX rfl qX11_choose_38 ?_
        refine v_callVq hX hR k_X11_114 (hs.kd 17 rfl) (c_survey (by exact hs) (by exact (hru.fr (hf 17 2 (by omega) (by omega) (by omega)) (funext fun k => hf 18 k (by omega) (by omega) (by omega)) (funext fun k => hf 19 k (by omega) (by omega) (by omega)))) (by exact hca1) (by exact hB) (by exact hl) (by exact hrl) (by exact ((hf B 5 (by omega) (by omega) (by omega)).trans hrl5)) (by exact (show inR (σ (B + 2) q) 99 by rw [show σ (B + 2) q = bv h B 2 q from (hf (B + 2) q (by omega) (by omega) (by omega)).trans (bv2 hl).symm]; exact hbe.2.1 q hl)) (by exact (show inR (σ B 3) 23 by rw [show σ B 3 = hpI h B 3 from hf B 3 (by omega) (by omega) (by omega)]; exact hh3))) rfl (Nat.le_of_ble_eq_true rfl) rfl (Nat.le_of_ble_eq_true rfl) ⟨Nat.le_of_ble_eq_true rfl, Nat.le_of_ble_eq_true rfl⟩ qX11_choose_39 ?_
        rintro _ _ ⟨rfl, σ2, rfl, hfv, hca2, d10, d11, d12⟩
        have f2 : ∀ k, hpI (σ, h.2) (B + 2) k = hpI h (B + 2) k := fun k => hf (B + 2) k (by omega) (by omega) (by omega)
        have f3 : hpI (σ, h.2) B 3 = hpI h B 3 := hf B 3 (by omega) (by omega) (by omega)
        rw [f2, f3, ← dpB_eq hl] at d10
        rw [f2, f3, ← seB_eq hl] at d11
        rw [f2, f3, ← shB_eq hl] at d12
        refine v_aload_n hX rfl qX11_choose_42 ?_
        refine v_iload_n hX rfl qX11_choose_43 ?_
        refine v_iload_n hX rfl qX11_choose_44 ?_
        refine v_callVq hX hR k_X11_384 (hs.kd 0 rfl) (c_weighParty (by exact hs) (by exact (hp.fr hs ((hfv 0 5 (by omega) (by omega)).trans (hf 0 5 (by omega) (by omega) (by omega))) (fun a ha => (hfv a 0 (by omega) (by omega)).trans (hf a 0 (by omega) (by omega) (by omega))))) (by exact d10) (by exact d11) (by exact d12) (q := q) _ (rt := fun i => rateB TV (bv h B) (kd i) (nu i) q) (by exact (fun i hi => rfl)) (by exact ((hfv 0 10 (by omega) (by omega)).trans k10)) (by exact ((hfv 0 11 (by omega) (by omega)).trans k11)) (by exact ((hfv 0 12 (by omega) (by omega)).trans k12))) rfl (Nat.le_of_ble_eq_true rfl) rfl (Nat.le_of_ble_eq_true rfl) ⟨Nat.le_of_ble_eq_true rfl, Nat.le_of_ble_eq_true rfl⟩ qX11_choose_45 ?_
        rintro _ _ ⟨rfl, σ3, rfl, hf3, j10, j11, j12⟩
        refine v_iinc hX rfl (by first | exact ii_nI _ | exact ii_1 _) (Nat.le_of_ble_eq_true rfl) rfl (ls' := [some _, some _, some _, some _]) rfl qX11_choose_48 ?_
        refine v_goto hX 17 qX11_choose_51 rfl ?_
        refine v_forget (ls' := [_, _, _, none]) ⟨Or.inr rfl, Or.inr rfl, Or.inr rfl, Or.inl rfl, trivial⟩ ?_
        first | (have e1 : chS TV m kd nu (bv h B) (q + 1) = wpS (fun i => rateB TV (bv h B) (kd i) (nu i) q) (nI q) m (chS TV m kd nu (bv h B) q) := if_pos q30; exact ih _ (by omega) (q + 1) σ3 rfl (by omega) (fun a k h1 h2 h3 => (hf3 a k h3).trans ((hfv a k h1 h2).trans (hf a k h1 h2 h3))) (hca2.eq (fun a h1 h2 k hk => hf3 a k (by omega))) (by rw [e1]; exact j10) (by rw [e1]; exact j11) (by rw [e1]; exact j12)) | (have e1 : chS TV m kd nu (bv h B) (q + 1) = chS TV m kd nu (bv h B) q := if_neg (Int32.not_lt.mpr q30); exact ih _ (by omega) (q + 1) σ rfl (by omega) hf hca1 (by rw [e1]; exact k10) (by rw [e1]; exact k11) (by rw [e1]; exact k12))
  exact L17 _ 0 _ rfl (by omega) (fun a k h1 h2 h3 => by show hpI (stI _ _ _ _) _ _ = _; rw [hpI_st, if_neg (by omega), hpI_st, if_neg (by omega), hpI_st, if_neg (by omega)]) (hca.eq (fun a h1 h2 k hk => by show hpI (stI _ _ _ _) _ _ = _; rw [hpI_st, if_neg (by omega), hpI_st, if_neg (by omega), hpI_st, if_neg (by omega)])) rfl rfl rfl
