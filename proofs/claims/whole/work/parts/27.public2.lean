/-! public calls of the class: likely, here, most, under, drowned, drawn, foundBy, count, crowd -/
theorem v_ldc_w {X : Cx} {G : Glb} {own : String} {cc : ByteArray} {nL k n pc pc' : Nat} {rt : Option FieldType} {Q : State → Prop} {ls : List (Option Value)} {st : List Value} {h : AHp} (hX : OKx X G own cc nL rt) {ix : Nat} {v : Int32} (hw : Cond.constant own ix v ∈ TG) (hd : Dq cc pc (.ldc_w ix) 3 pc') (kk : V X G nL k n Q pc' ls (.int v :: st) h) : V X G nL k n Q pc ls (st) h := by
  obtain ⟨hd, rfl⟩ := hd
  intro H locs la hW hS hL
  exact lv_ldcw hX.1 hX.2.1 hX.2.2.2.2.1 (hX.2.2.2.2.2.1 _ hw) hd (kk H locs la hW hS hL)
theorem sumN_congr {f g : Nat → Int32} : ∀ n, (∀ k, k < n → f k = g k) → sumN f n = sumN g n := by
  intro n
  induction n with
  | zero => intro _; rfl
  | succ n ih => intro h; show sumN f n + f n = sumN g n + g n; rw [ih (fun k hk => h k (by omega)), h n (by omega)]
theorem mst_congr {f g : Nat → Int32} : ∀ n, (∀ k, k < n → f k = g k) → mst f n = mst g n := by
  intro n
  induction n with
  | zero => intro _; rfl
  | succ n ih => intro h; unfold mst; rw [ih (fun k hk => h k (by omega)), h n (by omega)]
theorem fx_congr {p q : Nat → Bool} : ∀ n i, (∀ k, i ≤ k → k < i + n → p k = q k) → fx p n i = fx q n i := by
  intro n
  induction n with
  | zero => intro i _; rfl
  | succ n ih =>
    intro i h
    unfold fx
    rw [h i (Nat.le_refl _) (by omega), ih (i + 1) (fun k hk hk2 => h k (by omega) (by omega))]
theorem anyB_congr {p q : Nat → Bool} : ∀ n, (∀ k, k < n → p k = q k) → anyB p n = anyB q n := by
  intro n
  induction n with
  | zero => intro _; rfl
  | succ n ih => intro h; unfold anyB; rw [ih (fun k hk => h k (by omega)), h n (by omega)]
theorem sumN_in {f : Nat → Int32} {M : Nat} (hM : M ≤ 999999) : ∀ n, n ≤ 48 → (∀ k, k < n → inR (f k) M) → ∃ s, s ≤ n * M ∧ sumN f n = nI s := by
  intro n
  induction n with
  | zero => intro _ _; exact ⟨0, Nat.zero_le _, rfl⟩
  | succ n ih =>
    intro hn h
    obtain ⟨s, hs, e⟩ := ih (by omega) (fun k hk => h k (by omega))
    obtain ⟨j, hj, ej⟩ := (h n (by omega)).ex (by omega)
    refine ⟨s + j, by rw [Nat.succ_mul]; omega, ?_⟩
    show sumN f n + f n = _
    rw [e, ej, nI_add]
def onI (b : Bch) : Int32 := sumN (b 1) 48
def allI (b : Bch) : Int32 := onI b + b 0 2
theorem onI_in {b : Bch} {c : Nat} (h : BeOK b c) : ∃ s, s ≤ 47999952 ∧ onI b = nI s := by
  obtain ⟨s, h1, h2⟩ := sumN_in (M := 999999) (by omega) 48 (by omega) h.1
  exact ⟨s, by omega, h2⟩
theorem allI_in {b : Bch} {c : Nat} (h : BeOK b c) : ∃ s, s ≤ 48999951 ∧ allI b = nI s := by
  obtain ⟨s, h1, h2⟩ := onI_in h
  obtain ⟨g, h3, h4⟩ := h.2.2.1.ex (by omega)
  exact ⟨s + g, by omega, by rw [allI, h2, h4, nI_add]⟩
def likelyI (b : Bch) (c q : Int32) : Int64 := if isC c ∧ ((0 ≤ q ∧ q ≤ 1) ∧ 0 < tn (allI b)) then loI (tn (b 1 (tn c))) (tn (allI b)) q else NOI
def hereI (b : Bch) (q : Int32) : Int64 := if (0 ≤ q ∧ q ≤ 1) ∧ 0 < tn (allI b) then loI (tn (onI b)) (tn (allI b)) q else NOI
def mostI (b : Bch) (w : Int32) : Int32 := if w = 0 then (mst (b 1) 48).1 else if w = 1 then allI b else -2
def udS (TV : TVt) (b : Bch) (y : Nat) : Nat → Int32
  | 0 => 0
  | n + 1 => if wetB TV b (y * 8 + n) (b 0 3) = 0 then udS TV b y n else udS TV b y n ||| ((1 : Int32) <<< (nI n &&& 31))
def underI (TV : TVt) (b : Bch) (y : Int32) : Int32 := if 0 ≤ y ∧ y ≤ 5 then udS TV b (tn y) 8 else -2
def drownedI (TV : TVt) (b : Bch) (w : Int32) : Int32 := if w = 0 then duS TV b (b 0 3) 48 else if w = 1 then (mdS (fun z => duS TV b (nI z) 48) (tn (b 0 3)) (23 - tn (b 0 3))).1 else -2
def drawnI (b : Bch) (seed : Int32) : Int32 := if 0 < allI b then fx (fun k => decide (rmI ((seed * 1103515245 + 12345).toUInt32 >>> ((4 : Int32).toUInt32 &&& Int32.toUInt32 31)).toInt32 (allI b) < sumN (b 1) (k + 1))) 48 0 else -1
def fbS (E : Sst) (seed : Int32) : Nat → Int32
  | 0 => 0
  | k + 1 => if anyB (fun i => decide (ceE E i = drawnI (sB E) (seed + nI k))) (szE E 20) = true then fbS E seed k + 1 else fbS E seed k
def foundByI (E : Sst) (seed n : Int32) : Int32 := if 1 ≤ n ∧ n ≤ 20 then fbS E seed (tn n) else -2
def countI (E : Sst) (w : Int32) : Int32 := if w = 0 then nI (sM E) else if w = 1 then sB E 0 2 else if w = 2 then sB E 0 3 else if w = 3 then sB E 0 4 else if w = 4 then nI (sC E) else if w = 5 then nI (sZ E) else if w = 6 then sB E 0 5 else if w = 7 then sumN (sB E 2) 48 else -2
def crB (b : Bch) (q : Nat) (t : Int32) : Nat → Bch
  | 0 => b
  | i + 1 => up2 (crB b q t i) 2 (q + i) (mnI 99 (crB b q t i 2 (q + i) + t))
def crowdI (b : Bch) (c n t : Int32) : Int32 × Bch := if isC c ∧ ((1 ≤ n ∧ n ≤ 8) ∧ (1 ≤ t ∧ t ≤ 99)) then (nI (min (tn n) (8 - tn c % 8)), crB b (tn c) t (min (tn n) (8 - tn c % 8))) else (-2, b)
theorem CV.sum {h : AHp} {E : Sst} (hc : CV h E) : sumN (hpI h 2) 48 = onI (sB E) := by
  rw [onI, ← hc.b]
  exact sumN_congr 48 (fun k hk => (bv1 (B := 1) hk).symm)
theorem CV.f {h : AHp} {E : Sst} (hc : CV h E) {k : Nat} (h2 : 2 ≤ k) (h6 : k < 6) : hpI h 1 k = sB E 0 k := by rw [← hc.b, bv0 h2 h6]
theorem CV.all {h : AHp} {E : Sst} (hc : CV h E) : sumN (hpI h 2) 48 + hpI h 1 2 = allI (sB E) := by rw [hc.sum, hc.f (by omega) (by omega)]; rfl
theorem i2l_in {x : Int32} {s : Nat} (e : x = nI s) (hs : s < 2 ^ 31) : x.toInt64 = lN (tn x) := by
  rw [e, nI_l hs, show tn (nI s) = s from nI_clamp hs]
theorem qX11_likely_0 : Dq cX11_likely 0 (.iload_n 1) 1 1 := ⟨by decide +kernel, rfl⟩
theorem qX11_likely_1 : Dq cX11_likely 1 (.invokestatic 107) 3 4 := ⟨by decide +kernel, rfl⟩
theorem qX11_likely_4 : Dq cX11_likely 4 (.ifCond .ne 7) 3 7 := ⟨by decide +kernel, rfl⟩
theorem qX11_likely_7 : Dq cX11_likely 7 (.ldc2_w 206) 3 10 := ⟨by decide +kernel, rfl⟩
theorem qX11_likely_10 : Dq cX11_likely 10 (.lreturn) 1 11 := ⟨by decide +kernel, rfl⟩
theorem qX11_likely_11 : Dq cX11_likely 11 (.aload_n 0) 1 12 := ⟨by decide +kernel, rfl⟩
theorem qX11_likely_12 : Dq cX11_likely 12 (.getfield 10) 3 15 := ⟨by decide +kernel, rfl⟩
theorem qX11_likely_15 : Dq cX11_likely 15 (.iload_n 1) 1 16 := ⟨by decide +kernel, rfl⟩
theorem qX11_likely_16 : Dq cX11_likely 16 (.invokevirtual 118) 3 19 := ⟨by decide +kernel, rfl⟩
theorem qX11_likely_19 : Dq cX11_likely 19 (.i2l) 1 20 := ⟨by decide +kernel, rfl⟩
theorem qX11_likely_20 : Dq cX11_likely 20 (.aload_n 0) 1 21 := ⟨by decide +kernel, rfl⟩
theorem qX11_likely_21 : Dq cX11_likely 21 (.getfield 10) 3 24 := ⟨by decide +kernel, rfl⟩
theorem qX11_likely_24 : Dq cX11_likely 24 (.invokevirtual 208) 3 27 := ⟨by decide +kernel, rfl⟩
theorem qX11_likely_27 : Dq cX11_likely 27 (.i2l) 1 28 := ⟨by decide +kernel, rfl⟩
theorem qX11_likely_28 : Dq cX11_likely 28 (.iload_n 2) 1 29 := ⟨by decide +kernel, rfl⟩
theorem qX11_likely_29 : Dq cX11_likely 29 (.invokestatic 211) 3 32 := ⟨by decide +kernel, rfl⟩
theorem qX11_likely_32 : Dq cX11_likely 32 (.lreturn) 1 33 := ⟨by decide +kernel, rfl⟩
set_option maxRecDepth 100000 in
set_option maxHeartbeats 4000000 in
theorem c_likely {G : Glb} {h : AHp} {E : Sst} (hc : CV h E) (c q : Int32) : CP G m_X11_likely 4 0 0 [.ref 0, .int c, .int q] h (fun r h' => r = some (.long (likelyI (sB E) c q)) ∧ h = h') := by
  suffices key : ∀ P : Option Value → AHp → Prop, (∀ r h', (r = some (.long (likelyI (sB E) c q)) ∧ h = h') → P r h') → CP G m_X11_likely 4 0 0 [.ref 0, .int c, .int q] h P from key _ (fun _ _ z => z)
  intro P hP
  have hs := hc.sh
  have hru := hc.ru
  have hca := hc.ca
  have hbe := hc.be
  have hok := hc.ok
  obtain ⟨hrl, hrl5⟩ := hbe.rl hok.1
  rw [bv0 (by omega) (by omega)] at hrl5
  have hh3 := hbe.2.2.2.1
  rw [bv0 (by omega) (by omega)] at hh3
  have hall := hc.all
  obtain ⟨A, hA, eA⟩ := allI_in hc.ok.2.2.2.1
  have tA : tn (allI (sB E)) = A := by rw [eA]; exact nI_clamp (by omega)
  refine CP.of (by decide +kernel) (Nat.le_of_ble_eq_true rfl) fun X hX hR hnm => ?_
  show V X G 3 0 0 _ 0 [some (.ref 0), some (.int c), some (.int q)] [] h
  refine v_iload_n hX rfl qX11_likely_0 ?_
  refine v_callSq hX hR k_X11_107 (c_isCell _) rfl (Nat.le_of_ble_eq_true rfl) rfl (Nat.le_of_ble_eq_true rfl) ⟨Nat.le_of_ble_eq_true rfl, Nat.le_of_ble_eq_true rfl⟩ qX11_likely_1 ?_
  rintro _ _ ⟨rfl, rfl⟩
  first | refine v_if_neB hX 11 qX11_likely_4 rfl (fun q4 => ?_) (fun q4 => ?_) | refine v_if_ne hX 11 qX11_likely_4 rfl (fun q4 => ?_) (fun q4 => ?_)
  · obtain ⟨w, hw, rfl⟩ := isC_ex q4
    obtain ⟨o, ho, eo⟩ := (hc.ok.2.2.2.1.1 w hw).ex (by omega)
    refine v_aload_n hX rfl qX11_likely_11 ?_
    refine v_getR hX g_X11_10 (hs.kd 0 rfl) (hs.rf 0 rfl) qX11_likely_12 ?_
    refine v_iload_n hX rfl qX11_likely_15 ?_
    refine v_callVq hX hR k_X11_118 (hs.kd 1 rfl) (c_oddsAt (by exact hs) (by exact (Or.inl rfl)) _) rfl (Nat.le_of_ble_eq_true rfl) rfl (Nat.le_of_ble_eq_true rfl) ⟨Nat.le_of_ble_eq_true rfl, Nat.le_of_ble_eq_true rfl⟩ qX11_likely_16 ?_
    rintro _ _ ⟨rfl, rfl⟩
    refine v_eqI (show _ = sB E 1 w by rw [oddsA_n hw, hc.b]) ?_
    refine v_i2l hX qX11_likely_19 ?_
    refine v_eqL (i2l_in eo (by omega)) ?_
    refine v_aload_n hX rfl qX11_likely_20 ?_
    refine v_getR hX g_X11_10 (hs.kd 0 rfl) (hs.rf 0 rfl) qX11_likely_21 ?_
    refine v_callVq hX hR k_X11_208 (hs.kd 1 rfl) (c_allOdds (by exact hs) (by exact (Or.inl rfl))) rfl (Nat.le_of_ble_eq_true rfl) rfl (Nat.le_of_ble_eq_true rfl) ⟨Nat.le_of_ble_eq_true rfl, Nat.le_of_ble_eq_true rfl⟩ qX11_likely_24 ?_
    rintro _ _ ⟨rfl, rfl⟩
    refine v_eqI (show _ = allI (sB E) from hall) ?_
    refine v_i2l hX qX11_likely_27 ?_
    refine v_eqL (i2l_in eA (by omega)) ?_
    refine v_iload_n hX rfl qX11_likely_28 ?_
    refine v_callSq hX hR k_X11_211 (c_partOfQuotient (a := tn (sB E 1 w)) (b := tn (allI (sB E))) (by rw [eo]; rw [show tn (nI o) = o from nI_clamp (by omega)]; omega) (by omega) _) rfl (Nat.le_of_ble_eq_true rfl) rfl (Nat.le_of_ble_eq_true rfl) ⟨Nat.le_of_ble_eq_true rfl, Nat.le_of_ble_eq_true rfl⟩ qX11_likely_29 ?_
    rintro _ _ ⟨rfl, rfl⟩
    refine v_lreturn hX qX11_likely_32 (hP _ _ ?_)
    refine ⟨?_, rfl⟩
    rw [likelyI, tn_nI (show w < 2000000 by omega)]
    by_cases z : (0 ≤ q ∧ q ≤ 1) ∧ 0 < tn (allI (sB E))
    · rw [if_pos z, if_pos ⟨isCn hw, z⟩]
    · rw [if_neg z, if_neg (fun y => z y.2)]
  · skip
    refine v_ldc2 hX c_X11_206 qX11_likely_7 ?_
    refine v_lreturn hX qX11_likely_10 (hP _ _ ?_)
    exact ⟨by rw [likelyI, if_neg (fun z => q4 z.1)]; rfl, rfl⟩
theorem qX11_here_0 : Dq cX11_here 0 (.aload_n 0) 1 1 := ⟨by decide +kernel, rfl⟩
theorem qX11_here_1 : Dq cX11_here 1 (.getfield 10) 3 4 := ⟨by decide +kernel, rfl⟩
theorem qX11_here_4 : Dq cX11_here 4 (.invokevirtual 215) 3 7 := ⟨by decide +kernel, rfl⟩
theorem qX11_here_7 : Dq cX11_here 7 (.i2l) 1 8 := ⟨by decide +kernel, rfl⟩
theorem qX11_here_8 : Dq cX11_here 8 (.aload_n 0) 1 9 := ⟨by decide +kernel, rfl⟩
theorem qX11_here_9 : Dq cX11_here 9 (.getfield 10) 3 12 := ⟨by decide +kernel, rfl⟩
theorem qX11_here_12 : Dq cX11_here 12 (.invokevirtual 208) 3 15 := ⟨by decide +kernel, rfl⟩
theorem qX11_here_15 : Dq cX11_here 15 (.i2l) 1 16 := ⟨by decide +kernel, rfl⟩
theorem qX11_here_16 : Dq cX11_here 16 (.iload_n 1) 1 17 := ⟨by decide +kernel, rfl⟩
theorem qX11_here_17 : Dq cX11_here 17 (.invokestatic 211) 3 20 := ⟨by decide +kernel, rfl⟩
theorem qX11_here_20 : Dq cX11_here 20 (.lreturn) 1 21 := ⟨by decide +kernel, rfl⟩
set_option maxRecDepth 100000 in
set_option maxHeartbeats 4000000 in
theorem c_here {G : Glb} {h : AHp} {E : Sst} (hc : CV h E) (q : Int32) : CP G m_X11_here 4 0 0 [.ref 0, .int q] h (fun r h' => r = some (.long (hereI (sB E) q)) ∧ h = h') := by
  suffices key : ∀ P : Option Value → AHp → Prop, (∀ r h', (r = some (.long (hereI (sB E) q)) ∧ h = h') → P r h') → CP G m_X11_here 4 0 0 [.ref 0, .int q] h P from key _ (fun _ _ z => z)
  intro P hP
  have hs := hc.sh
  have hru := hc.ru
  have hca := hc.ca
  have hbe := hc.be
  have hok := hc.ok
  obtain ⟨hrl, hrl5⟩ := hbe.rl hok.1
  rw [bv0 (by omega) (by omega)] at hrl5
  have hh3 := hbe.2.2.2.1
  rw [bv0 (by omega) (by omega)] at hh3
  have hall := hc.all
  obtain ⟨A, hA, eA⟩ := allI_in hc.ok.2.2.2.1
  have tA : tn (allI (sB E)) = A := by rw [eA]; exact nI_clamp (by omega)
  obtain ⟨o, ho, eo⟩ := onI_in hc.ok.2.2.2.1
  refine CP.of (by decide +kernel) (Nat.le_of_ble_eq_true rfl) fun X hX hR hnm => ?_
  show V X G 2 0 0 _ 0 [some (.ref 0), some (.int q)] [] h
  refine v_aload_n hX rfl qX11_here_0 ?_
  refine v_getR hX g_X11_10 (hs.kd 0 rfl) (hs.rf 0 rfl) qX11_here_1 ?_
  refine v_callVq hX hR k_X11_215 (hs.kd 1 rfl) (c_oddsOnCells (by exact hs) (by exact (Or.inl rfl))) rfl (Nat.le_of_ble_eq_true rfl) rfl (Nat.le_of_ble_eq_true rfl) ⟨Nat.le_of_ble_eq_true rfl, Nat.le_of_ble_eq_true rfl⟩ qX11_here_4 ?_
  rintro _ _ ⟨rfl, rfl⟩
  refine v_eqI (show _ = onI (sB E) from hc.sum) ?_
  refine v_i2l hX qX11_here_7 ?_
  refine v_eqL (i2l_in eo (by omega)) ?_
  refine v_aload_n hX rfl qX11_here_8 ?_
  refine v_getR hX g_X11_10 (hs.kd 0 rfl) (hs.rf 0 rfl) qX11_here_9 ?_
  refine v_callVq hX hR k_X11_208 (hs.kd 1 rfl) (c_allOdds (by exact hs) (by exact (Or.inl rfl))) rfl (Nat.le_of_ble_eq_true rfl) rfl (Nat.le_of_ble_eq_true rfl) ⟨Nat.le_of_ble_eq_true rfl, Nat.le_of_ble_eq_true rfl⟩ qX11_here_12 ?_
  rintro _ _ ⟨rfl, rfl⟩
  refine v_eqI (show _ = allI (sB E) from hall) ?_
  refine v_i2l hX qX11_here_15 ?_
  refine v_eqL (i2l_in eA (by omega)) ?_
  refine v_iload_n hX rfl qX11_here_16 ?_
  refine v_callSq hX hR k_X11_211 (c_partOfQuotient (a := tn (onI (sB E))) (b := tn (allI (sB E))) (by rw [eo]; rw [show tn (nI o) = o from nI_clamp (by omega)]; omega) (by omega) _) rfl (Nat.le_of_ble_eq_true rfl) rfl (Nat.le_of_ble_eq_true rfl) ⟨Nat.le_of_ble_eq_true rfl, Nat.le_of_ble_eq_true rfl⟩ qX11_here_17 ?_
  rintro _ _ ⟨rfl, rfl⟩
  refine v_lreturn hX qX11_here_20 (hP _ _ ?_)
  exact ⟨rfl, rfl⟩
theorem qX11_most_0 : Dq cX11_most 0 (.iload_n 1) 1 1 := ⟨by decide +kernel, rfl⟩
theorem qX11_most_1 : Dq cX11_most 1 (.lookupswitch 43 #[(0, 27), (1, 35)]) 27 28 := ⟨by decide +kernel, rfl⟩
theorem qX11_most_28 : Dq cX11_most 28 (.aload_n 0) 1 29 := ⟨by decide +kernel, rfl⟩
theorem qX11_most_29 : Dq cX11_most 29 (.getfield 10) 3 32 := ⟨by decide +kernel, rfl⟩
theorem qX11_most_32 : Dq cX11_most 32 (.invokevirtual 218) 3 35 := ⟨by decide +kernel, rfl⟩
theorem qX11_most_35 : Dq cX11_most 35 (.ireturn) 1 36 := ⟨by decide +kernel, rfl⟩
theorem qX11_most_36 : Dq cX11_most 36 (.aload_n 0) 1 37 := ⟨by decide +kernel, rfl⟩
theorem qX11_most_37 : Dq cX11_most 37 (.getfield 10) 3 40 := ⟨by decide +kernel, rfl⟩
theorem qX11_most_40 : Dq cX11_most 40 (.invokevirtual 208) 3 43 := ⟨by decide +kernel, rfl⟩
theorem qX11_most_43 : Dq cX11_most 43 (.ireturn) 1 44 := ⟨by decide +kernel, rfl⟩
theorem qX11_most_44 : Dq cX11_most 44 (.bipush (-2)) 2 46 := ⟨by decide +kernel, rfl⟩
theorem qX11_most_46 : Dq cX11_most 46 (.ireturn) 1 47 := ⟨by decide +kernel, rfl⟩
set_option maxRecDepth 100000 in
set_option maxHeartbeats 4000000 in
theorem c_most {G : Glb} {h : AHp} {E : Sst} (hc : CV h E) (w : Int32) : CP G m_X11_most 3 0 0 [.ref 0, .int w] h (fun r h' => r = some (.int (mostI (sB E) w)) ∧ h = h') := by
  suffices key : ∀ P : Option Value → AHp → Prop, (∀ r h', (r = some (.int (mostI (sB E) w)) ∧ h = h') → P r h') → CP G m_X11_most 3 0 0 [.ref 0, .int w] h P from key _ (fun _ _ z => z)
  intro P hP
  have hs := hc.sh
  have hru := hc.ru
  have hca := hc.ca
  have hbe := hc.be
  have hok := hc.ok
  obtain ⟨hrl, hrl5⟩ := hbe.rl hok.1
  rw [bv0 (by omega) (by omega)] at hrl5
  have hh3 := hbe.2.2.2.1
  rw [bv0 (by omega) (by omega)] at hh3
  refine CP.of (by decide +kernel) (Nat.le_of_ble_eq_true rfl) fun X hX hR hnm => ?_
  show V X G 2 0 0 _ 0 [some (.ref 0), some (.int w)] [] h
  refine v_iload_n hX rfl qX11_most_0 ?_
  refine v_case (0 : Int32) (fun q1 => ?_) (fun q1_0 => ?_)
  · skip
    refine v_lookup (off := 27) hX 28 qX11_most_1 (by decide) (by first | exact (by rw [q1]; rfl) | rfl) rfl ?_
    refine v_aload_n hX rfl qX11_most_28 ?_
    refine v_getR hX g_X11_10 (hs.kd 0 rfl) (hs.rf 0 rfl) qX11_most_29 ?_
    refine v_callVq hX hR k_X11_218 (hs.kd 1 rfl) (c_cellOfMostOdds (by exact hs) (by exact (Or.inl rfl))) rfl (Nat.le_of_ble_eq_true rfl) rfl (Nat.le_of_ble_eq_true rfl) ⟨Nat.le_of_ble_eq_true rfl, Nat.le_of_ble_eq_true rfl⟩ qX11_most_32 ?_
    rintro _ _ ⟨rfl, rfl⟩
    refine v_ireturn hX qX11_most_35 (hP _ _ ?_)
    refine ⟨?_, rfl⟩
    rw [mostI, if_pos q1, mst_congr 48 (fun k hk => (bv1 (B := 1) hk).symm), hc.b]
  refine v_case (1 : Int32) (fun q1 => ?_) (fun q1_1 => ?_)
  · skip
    refine v_lookup (off := 35) hX 36 qX11_most_1 (by decide) (by first | exact (by rw [q1]; rfl) | rfl) rfl ?_
    refine v_aload_n hX rfl qX11_most_36 ?_
    refine v_getR hX g_X11_10 (hs.kd 0 rfl) (hs.rf 0 rfl) qX11_most_37 ?_
    refine v_callVq hX hR k_X11_208 (hs.kd 1 rfl) (c_allOdds (by exact hs) (by exact (Or.inl rfl))) rfl (Nat.le_of_ble_eq_true rfl) rfl (Nat.le_of_ble_eq_true rfl) ⟨Nat.le_of_ble_eq_true rfl, Nat.le_of_ble_eq_true rfl⟩ qX11_most_40 ?_
    rintro _ _ ⟨rfl, rfl⟩
    refine v_ireturn hX qX11_most_43 (hP _ _ ?_)
    refine ⟨?_, rfl⟩
    rw [mostI, if_neg (by rw [q1]; decide), if_pos q1, ← hc.all]
  refine v_lookup (off := 43) hX 44 qX11_most_1 (by decide) ?_ rfl ?_
  · have z0 := ne_i (0) (by decide) q1_0; have z1 := ne_i (1) (by decide) q1_1; refine lk_out _ (fun q hq => ?_); simp at hq; rcases hq with rfl | rfl <;> assumption
  refine v_bipush hX lb_n2 qX11_most_44 ?_
  refine v_ireturn hX qX11_most_46 (hP _ _ ?_)
  exact ⟨by rw [mostI, if_neg q1_0, if_neg q1_1], rfl⟩
theorem qX11_under_0 : Dq cX11_under 0 (.iload_n 1) 1 1 := ⟨by decide +kernel, rfl⟩
theorem qX11_under_1 : Dq cX11_under 1 (.iconst 0) 1 2 := ⟨by decide +kernel, rfl⟩
theorem qX11_under_2 : Dq cX11_under 2 (.iconst 5) 1 3 := ⟨by decide +kernel, rfl⟩
theorem qX11_under_3 : Dq cX11_under 3 (.invokestatic 110) 3 6 := ⟨by decide +kernel, rfl⟩
theorem qX11_under_6 : Dq cX11_under 6 (.ifCond .ne 6) 3 9 := ⟨by decide +kernel, rfl⟩
theorem qX11_under_9 : Dq cX11_under 9 (.bipush (-2)) 2 11 := ⟨by decide +kernel, rfl⟩
theorem qX11_under_11 : Dq cX11_under 11 (.ireturn) 1 12 := ⟨by decide +kernel, rfl⟩
theorem qX11_under_12 : Dq cX11_under 12 (.iconst 0) 1 13 := ⟨by decide +kernel, rfl⟩
theorem qX11_under_13 : Dq cX11_under 13 (.istore_n 2) 1 14 := ⟨by decide +kernel, rfl⟩
theorem qX11_under_14 : Dq cX11_under 14 (.iconst 0) 1 15 := ⟨by decide +kernel, rfl⟩
theorem qX11_under_15 : Dq cX11_under 15 (.istore_n 3) 1 16 := ⟨by decide +kernel, rfl⟩
theorem qX11_under_16 : Dq cX11_under 16 (.iload_n 3) 1 17 := ⟨by decide +kernel, rfl⟩
theorem qX11_under_17 : Dq cX11_under 17 (.bipush 8) 2 19 := ⟨by decide +kernel, rfl⟩
theorem qX11_under_19 : Dq cX11_under 19 (.if_icmp .ge 35) 3 22 := ⟨by decide +kernel, rfl⟩
theorem qX11_under_22 : Dq cX11_under 22 (.aload_n 0) 1 23 := ⟨by decide +kernel, rfl⟩
theorem qX11_under_23 : Dq cX11_under 23 (.iload_n 1) 1 24 := ⟨by decide +kernel, rfl⟩
theorem qX11_under_24 : Dq cX11_under 24 (.bipush 8) 2 26 := ⟨by decide +kernel, rfl⟩
theorem qX11_under_26 : Dq cX11_under 26 (.imul) 1 27 := ⟨by decide +kernel, rfl⟩
theorem qX11_under_27 : Dq cX11_under 27 (.iload_n 3) 1 28 := ⟨by decide +kernel, rfl⟩
theorem qX11_under_28 : Dq cX11_under 28 (.iadd) 1 29 := ⟨by decide +kernel, rfl⟩
theorem qX11_under_29 : Dq cX11_under 29 (.aload_n 0) 1 30 := ⟨by decide +kernel, rfl⟩
theorem qX11_under_30 : Dq cX11_under 30 (.getfield 10) 3 33 := ⟨by decide +kernel, rfl⟩
theorem qX11_under_33 : Dq cX11_under 33 (.getfield 221) 3 36 := ⟨by decide +kernel, rfl⟩
theorem qX11_under_36 : Dq cX11_under 36 (.invokevirtual 224) 3 39 := ⟨by decide +kernel, rfl⟩
theorem qX11_under_39 : Dq cX11_under 39 (.ifCond .eq 9) 3 42 := ⟨by decide +kernel, rfl⟩
theorem qX11_under_42 : Dq cX11_under 42 (.iload_n 2) 1 43 := ⟨by decide +kernel, rfl⟩
theorem qX11_under_43 : Dq cX11_under 43 (.iconst 1) 1 44 := ⟨by decide +kernel, rfl⟩
theorem qX11_under_44 : Dq cX11_under 44 (.iload_n 3) 1 45 := ⟨by decide +kernel, rfl⟩
theorem qX11_under_45 : Dq cX11_under 45 (.ishl) 1 46 := ⟨by decide +kernel, rfl⟩
theorem qX11_under_46 : Dq cX11_under 46 (.ior) 1 47 := ⟨by decide +kernel, rfl⟩
theorem qX11_under_47 : Dq cX11_under 47 (.istore_n 2) 1 48 := ⟨by decide +kernel, rfl⟩
theorem qX11_under_48 : Dq cX11_under 48 (.iinc 3 1) 3 51 := ⟨by decide +kernel, rfl⟩
theorem qX11_under_51 : Dq cX11_under 51 (.goto (-35)) 3 54 := ⟨by decide +kernel, rfl⟩
theorem qX11_under_54 : Dq cX11_under 54 (.iload_n 2) 1 55 := ⟨by decide +kernel, rfl⟩
theorem qX11_under_55 : Dq cX11_under 55 (.ireturn) 1 56 := ⟨by decide +kernel, rfl⟩
set_option maxRecDepth 100000 in
set_option maxHeartbeats 4000000 in
theorem c_under {G : Glb} {h : AHp} {E : Sst} (hc : CV h E) (yy : Int32) : CP G m_X11_under 7 0 0 [.ref 0, .int yy] h (fun r h' => r = some (.int (underI (sT E) (sB E) yy)) ∧ ∃ σ, h' = (σ, h.2) ∧ CV (σ, h.2) E ∧ K38 h σ) := by
  suffices key : ∀ P : Option Value → AHp → Prop, (∀ r h', (r = some (.int (underI (sT E) (sB E) yy)) ∧ ∃ σ, h' = (σ, h.2) ∧ CV (σ, h.2) E ∧ K38 h σ) → P r h') → CP G m_X11_under 7 0 0 [.ref 0, .int yy] h P from key _ (fun _ _ z => z)
  intro P hP
  have hs := hc.sh
  have hru := hc.ru
  have hca := hc.ca
  have hbe := hc.be
  have hok := hc.ok
  obtain ⟨hrl, hrl5⟩ := hbe.rl hok.1
  rw [bv0 (by omega) (by omega)] at hrl5
  have hh3 := hbe.2.2.2.1
  rw [bv0 (by omega) (by omega)] at hh3
  refine CP.of (by decide +kernel) (Nat.le_of_ble_eq_true rfl) fun X hX hR hnm => ?_
  show V X G 4 0 0 _ 0 [some (.ref 0), some (.int yy), none, none] [] h
  refine v_iload_n hX rfl qX11_under_0 ?_
  refine v_iconst hX li_0 qX11_under_1 ?_
  refine v_iconst hX li_5 qX11_under_2 ?_
  refine v_callSq hX hR k_X11_110 (c_isWithin _ _ _) rfl (Nat.le_of_ble_eq_true rfl) rfl (Nat.le_of_ble_eq_true rfl) ⟨Nat.le_of_ble_eq_true rfl, Nat.le_of_ble_eq_true rfl⟩ qX11_under_3 ?_
  rintro _ _ ⟨rfl, rfl⟩
  first | refine v_if_neB hX 12 qX11_under_6 rfl (fun q6 => ?_) (fun q6 => ?_) | refine v_if_ne hX 12 qX11_under_6 rfl (fun q6 => ?_) (fun q6 => ?_)
  · obtain ⟨y, hy, rfl⟩ := rng_ex 5 (by omega) q6
    refine v_iconst hX li_0 qX11_under_12 ?_
    refine v_istore_n hX (Nat.le_of_ble_eq_true rfl) rfl (ls' := [some _, some _, some _, none]) rfl qX11_under_13 ?_
    refine v_iconst hX li_0 qX11_under_14 ?_
    refine v_istore_n hX (Nat.le_of_ble_eq_true rfl) rfl (ls' := [some _, some _, some _, some _]) rfl qX11_under_15 ?_
    have L16 : ∀ (mz : Nat) (i : Nat) (σ : Nat → Nat → Int32), 8 - i = mz → (i ≤ 8) → (FrW h σ) → (CV (σ, h.2) E) → V X G 4 0 0 (QM X G P 0 0) 16 [some (.ref 0), some (.int (nI y)), some (.int (udS (sT E) (sB E) y i)), some (.int (nI i))] [] (σ, h.2) := by
      intro mz
      induction mz using Nat.strongRecOn with
      | _ mz ih =>
      intro i σ hm hi hf hcv
      refine v_iload_n hX rfl qX11_under_16 ?_
      refine v_bipush hX lb_8 qX11_under_17 ?_
      refine v_icmp_geS hX 54 qX11_under_19 rfl (fun q19 => ?_) (fun q19 => ?_)
      · have e1 := geN (N := 8) rfl hi q19; subst e1
        refine v_iload_n hX rfl qX11_under_54 ?_
        refine v_ireturn hX qX11_under_55 (hP _ _ ?_)
        rw [underI, if_pos q6, tn_nI (show y < 2000000 by omega)]
        exact ⟨rfl, σ, rfl, hcv, hf.P.k⟩
      · have hl := ltN (N := 8) rfl hi q19
        refine v_aload_n hX rfl qX11_under_22 ?_
        refine v_iload_n hX rfl qX11_under_23 ?_
        refine v_bipush hX lb_8 qX11_under_24 ?_
        refine v_imul hX qX11_under_26 ?_
        refine v_iload_n hX rfl qX11_under_27 ?_
        refine v_iadd hX qX11_under_28 ?_
        refine v_eqI (show nI y * 8 + nI i = nI (y * 8 + i) by rw [show (8 : Int32) = nI 8 from rfl, pk_mul, nI_add]) ?_
        refine v_aload_n hX rfl qX11_under_29 ?_
        refine v_getR hX g_X11_10 (hs.kd 0 rfl) (hs.rf 0 rfl) qX11_under_30 ?_
        refine v_getIv hX g_X11_221 (Or.inl rfl) (hs.kd 1 rfl) (hcv.f (by omega) (by omega)) qX11_under_33 ?_
        refine v_callVq hX hR k_X11_224 (hs.kd 0 rfl) (c_isWetAt (by exact hs) (by exact hcv.ru) (by exact hcv.be) (q := y * 8 + i) (by omega) _) rfl (Nat.le_of_ble_eq_true rfl) rfl (Nat.le_of_ble_eq_true rfl) ⟨Nat.le_of_ble_eq_true rfl, Nat.le_of_ble_eq_true rfl⟩ qX11_under_36 ?_
        rintro _ _ ⟨rfl, σ2, rfl, hf2⟩
        rw [hcv.b]
        first | refine v_if_eqB hX 48 qX11_under_39 rfl (fun q39 => ?_) (fun q39 => ?_) | refine v_if_eq hX 48 qX11_under_39 rfl (fun q39 => ?_) (fun q39 => ?_)
        · skip
          refine v_iinc hX rfl (by first | exact ii_nI _ | exact ii_1 _) (Nat.le_of_ble_eq_true rfl) rfl (ls' := [some _, some _, some _, some _]) rfl qX11_under_48 ?_
          refine v_goto hX 16 qX11_under_51 rfl ?_
          first | (have e1 : udS (sT E) (sB E) y (i + 1) = udS (sT E) (sB E) y i ||| ((1 : Int32) <<< (nI i &&& 31)) := if_neg q39; have z := ih _ (by omega) (i + 1) σ2 rfl (by omega) (hf.tr hf2) (hcv.p hf2.P (hcv.ca.W hf2)); rw [e1] at z; exact z) | (have e1 : udS (sT E) (sB E) y (i + 1) = udS (sT E) (sB E) y i := if_pos (Classical.byContradiction q39); have z := ih _ (by omega) (i + 1) σ2 rfl (by omega) (hf.tr hf2) (hcv.p hf2.P (hcv.ca.W hf2)); rw [e1] at z; exact z)
        · skip
          refine v_iload_n hX rfl qX11_under_42 ?_
          refine v_iconst hX li_1 qX11_under_43 ?_
          refine v_iload_n hX rfl qX11_under_44 ?_
          refine v_ishl hX qX11_under_45 ?_
          refine v_ior hX qX11_under_46 ?_
          refine v_istore_n hX (Nat.le_of_ble_eq_true rfl) rfl (ls' := [some _, some _, some _, some _]) rfl qX11_under_47 ?_
          refine v_iinc hX rfl (by first | exact ii_nI _ | exact ii_1 _) (Nat.le_of_ble_eq_true rfl) rfl (ls' := [some _, some _, some _, some _]) rfl qX11_under_48 ?_
          refine v_goto hX 16 qX11_under_51 rfl ?_
          first | (have e1 : udS (sT E) (sB E) y (i + 1) = udS (sT E) (sB E) y i ||| ((1 : Int32) <<< (nI i &&& 31)) := if_neg q39; have z := ih _ (by omega) (i + 1) σ2 rfl (by omega) (hf.tr hf2) (hcv.p hf2.P (hcv.ca.W hf2)); rw [e1] at z; exact z) | (have e1 : udS (sT E) (sB E) y (i + 1) = udS (sT E) (sB E) y i := if_pos (Classical.byContradiction q39); have z := ih _ (by omega) (i + 1) σ2 rfl (by omega) (hf.tr hf2) (hcv.p hf2.P (hcv.ca.W hf2)); rw [e1] at z; exact z)
    exact L16 _ 0 h.1 rfl (by omega) (fun a k _ _ _ => rfl) hc
  · skip
    refine v_bipush hX lb_n2 qX11_under_9 ?_
    refine v_ireturn hX qX11_under_11 (hP _ _ ?_)
    rw [underI, if_neg q6]
    exact ⟨rfl, h.1, rfl, hc, fun a _ => rfl⟩
theorem qX11_drowned_0 : Dq cX11_drowned 0 (.iload_n 1) 1 1 := ⟨by decide +kernel, rfl⟩
theorem qX11_drowned_1 : Dq cX11_drowned 1 (.lookupswitch 44 #[(0, 27), (1, 39)]) 27 28 := ⟨by decide +kernel, rfl⟩
theorem qX11_drowned_28 : Dq cX11_drowned 28 (.aload_n 0) 1 29 := ⟨by decide +kernel, rfl⟩
theorem qX11_drowned_29 : Dq cX11_drowned 29 (.aload_n 0) 1 30 := ⟨by decide +kernel, rfl⟩
theorem qX11_drowned_30 : Dq cX11_drowned 30 (.getfield 10) 3 33 := ⟨by decide +kernel, rfl⟩
theorem qX11_drowned_33 : Dq cX11_drowned 33 (.getfield 221) 3 36 := ⟨by decide +kernel, rfl⟩
theorem qX11_drowned_36 : Dq cX11_drowned 36 (.invokevirtual 228) 3 39 := ⟨by decide +kernel, rfl⟩
theorem qX11_drowned_39 : Dq cX11_drowned 39 (.ireturn) 1 40 := ⟨by decide +kernel, rfl⟩
theorem qX11_drowned_40 : Dq cX11_drowned 40 (.aload_n 0) 1 41 := ⟨by decide +kernel, rfl⟩
theorem qX11_drowned_41 : Dq cX11_drowned 41 (.invokevirtual 231) 3 44 := ⟨by decide +kernel, rfl⟩
theorem qX11_drowned_44 : Dq cX11_drowned 44 (.ireturn) 1 45 := ⟨by decide +kernel, rfl⟩
theorem qX11_drowned_45 : Dq cX11_drowned 45 (.bipush (-2)) 2 47 := ⟨by decide +kernel, rfl⟩
theorem qX11_drowned_47 : Dq cX11_drowned 47 (.ireturn) 1 48 := ⟨by decide +kernel, rfl⟩
set_option maxRecDepth 100000 in
set_option maxHeartbeats 4000000 in
theorem c_drowned {G : Glb} {h : AHp} {E : Sst} (hc : CV h E) (w : Int32) : CP G m_X11_drowned 8 0 0 [.ref 0, .int w] h (fun r h' => r = some (.int (drownedI (sT E) (sB E) w)) ∧ ∃ σ, h' = (σ, h.2) ∧ CV (σ, h.2) E ∧ K38 h σ) := by
  suffices key : ∀ P : Option Value → AHp → Prop, (∀ r h', (r = some (.int (drownedI (sT E) (sB E) w)) ∧ ∃ σ, h' = (σ, h.2) ∧ CV (σ, h.2) E ∧ K38 h σ) → P r h') → CP G m_X11_drowned 8 0 0 [.ref 0, .int w] h P from key _ (fun _ _ z => z)
  intro P hP
  have hs := hc.sh
  have hru := hc.ru
  have hca := hc.ca
  have hbe := hc.be
  have hok := hc.ok
  obtain ⟨hrl, hrl5⟩ := hbe.rl hok.1
  rw [bv0 (by omega) (by omega)] at hrl5
  have hh3 := hbe.2.2.2.1
  rw [bv0 (by omega) (by omega)] at hh3
  refine CP.of (by decide +kernel) (Nat.le_of_ble_eq_true rfl) fun X hX hR hnm => ?_
  show V X G 2 0 0 _ 0 [some (.ref 0), some (.int w)] [] h
  refine v_iload_n hX rfl qX11_drowned_0 ?_
  refine v_case (0 : Int32) (fun q1 => ?_) (fun q1_0 => ?_)
  · skip
    refine v_lookup (off := 27) hX 28 qX11_drowned_1 (by decide) (by first | exact (by rw [q1]; rfl) | rfl) rfl ?_
    refine v_aload_n hX rfl qX11_drowned_28 ?_
    refine v_aload_n hX rfl qX11_drowned_29 ?_
    refine v_getR hX g_X11_10 (hs.kd 0 rfl) (hs.rf 0 rfl) qX11_drowned_30 ?_
    refine v_getIv hX g_X11_221 (Or.inl rfl) (hs.kd 1 rfl) (hc.f (by omega) (by omega)) qX11_drowned_33 ?_
    refine v_callVq hX hR k_X11_228 (hs.kd 0 rfl) (c_oddsUnderWater (by exact hs) (by exact hru) (by exact hbe) _) rfl (Nat.le_of_ble_eq_true rfl) rfl (Nat.le_of_ble_eq_true rfl) ⟨Nat.le_of_ble_eq_true rfl, Nat.le_of_ble_eq_true rfl⟩ qX11_drowned_36 ?_
    rintro _ _ ⟨rfl, σ, rfl, hf⟩
    rw [hc.b]
    refine v_ireturn hX qX11_drowned_39 (hP _ _ ?_)
    rw [drownedI, if_pos q1]
    exact ⟨rfl, σ, rfl, hc.p hf.P (hca.W hf), hf.P.k⟩
  refine v_case (1 : Int32) (fun q1 => ?_) (fun q1_1 => ?_)
  · skip
    refine v_lookup (off := 39) hX 40 qX11_drowned_1 (by decide) (by first | exact (by rw [q1]; rfl) | rfl) rfl ?_
    refine v_aload_n hX rfl qX11_drowned_40 ?_
    refine v_callVq hX hR k_X11_231 (hs.kd 0 rfl) (c_hourOfMostDrowned (by exact hs) (by exact hru) (by exact hbe)) rfl (Nat.le_of_ble_eq_true rfl) rfl (Nat.le_of_ble_eq_true rfl) ⟨Nat.le_of_ble_eq_true rfl, Nat.le_of_ble_eq_true rfl⟩ qX11_drowned_41 ?_
    rintro _ _ ⟨rfl, σ, rfl, hf⟩
    rw [hc.b]
    refine v_ireturn hX qX11_drowned_44 (hP _ _ ?_)
    rw [drownedI, if_neg (by rw [q1]; decide), if_pos q1]
    exact ⟨rfl, σ, rfl, hc.p hf.P (hca.W hf), hf.P.k⟩
  refine v_lookup (off := 44) hX 45 qX11_drowned_1 (by decide) ?_ rfl ?_
  · have z0 := ne_i (0) (by decide) q1_0; have z1 := ne_i (1) (by decide) q1_1; refine lk_out _ (fun q hq => ?_); simp at hq; rcases hq with rfl | rfl <;> assumption
  refine v_bipush hX lb_n2 qX11_drowned_45 ?_
  refine v_ireturn hX qX11_drowned_47 (hP _ _ ?_)
  rw [drownedI, if_neg q1_0, if_neg q1_1]
  exact ⟨rfl, h.1, rfl, hc, fun a _ => rfl⟩
theorem qX11_drawn_0 : Dq cX11_drawn 0 (.aload_n 0) 1 1 := ⟨by decide +kernel, rfl⟩
theorem qX11_drawn_1 : Dq cX11_drawn 1 (.getfield 10) 3 4 := ⟨by decide +kernel, rfl⟩
theorem qX11_drawn_4 : Dq cX11_drawn 4 (.invokevirtual 208) 3 7 := ⟨by decide +kernel, rfl⟩
theorem qX11_drawn_7 : Dq cX11_drawn 7 (.istore_n 2) 1 8 := ⟨by decide +kernel, rfl⟩
theorem qX11_drawn_8 : Dq cX11_drawn 8 (.iload_n 2) 1 9 := ⟨by decide +kernel, rfl⟩
theorem qX11_drawn_9 : Dq cX11_drawn 9 (.ifCond .gt 5) 3 12 := ⟨by decide +kernel, rfl⟩
theorem qX11_drawn_12 : Dq cX11_drawn 12 (.iconst (-1)) 1 13 := ⟨by decide +kernel, rfl⟩
theorem qX11_drawn_13 : Dq cX11_drawn 13 (.ireturn) 1 14 := ⟨by decide +kernel, rfl⟩
theorem qX11_drawn_14 : Dq cX11_drawn 14 (.iload_n 1) 1 15 := ⟨by decide +kernel, rfl⟩
theorem qX11_drawn_15 : Dq cX11_drawn 15 (.ldc_w 271) 3 18 := ⟨by decide +kernel, rfl⟩
theorem qX11_drawn_18 : Dq cX11_drawn 18 (.imul) 1 19 := ⟨by decide +kernel, rfl⟩
theorem qX11_drawn_19 : Dq cX11_drawn 19 (.sipush 12345) 3 22 := ⟨by decide +kernel, rfl⟩
theorem qX11_drawn_22 : Dq cX11_drawn 22 (.iadd) 1 23 := ⟨by decide +kernel, rfl⟩
theorem qX11_drawn_23 : Dq cX11_drawn 23 (.istore_n 3) 1 24 := ⟨by decide +kernel, rfl⟩
theorem qX11_drawn_24 : Dq cX11_drawn 24 (.aload_n 0) 1 25 := ⟨by decide +kernel, rfl⟩
theorem qX11_drawn_25 : Dq cX11_drawn 25 (.getfield 10) 3 28 := ⟨by decide +kernel, rfl⟩
theorem qX11_drawn_28 : Dq cX11_drawn 28 (.iload_n 3) 1 29 := ⟨by decide +kernel, rfl⟩
theorem qX11_drawn_29 : Dq cX11_drawn 29 (.iconst 4) 1 30 := ⟨by decide +kernel, rfl⟩
theorem qX11_drawn_30 : Dq cX11_drawn 30 (.iushr) 1 31 := ⟨by decide +kernel, rfl⟩
theorem qX11_drawn_31 : Dq cX11_drawn 31 (.iload_n 2) 1 32 := ⟨by decide +kernel, rfl⟩
theorem qX11_drawn_32 : Dq cX11_drawn 32 (.irem) 1 33 := ⟨by decide +kernel, rfl⟩
theorem qX11_drawn_33 : Dq cX11_drawn 33 (.invokevirtual 272) 3 36 := ⟨by decide +kernel, rfl⟩
theorem qX11_drawn_36 : Dq cX11_drawn 36 (.ireturn) 1 37 := ⟨by decide +kernel, rfl⟩
set_option maxRecDepth 100000 in
set_option maxHeartbeats 4000000 in
theorem c_drawn {G : Glb} {h : AHp} {E : Sst} (hc : CV h E) (seed : Int32) : CP G m_X11_drawn 3 0 0 [.ref 0, .int seed] h (fun r h' => r = some (.int (drawnI (sB E) seed)) ∧ h = h') := by
  suffices key : ∀ P : Option Value → AHp → Prop, (∀ r h', (r = some (.int (drawnI (sB E) seed)) ∧ h = h') → P r h') → CP G m_X11_drawn 3 0 0 [.ref 0, .int seed] h P from key _ (fun _ _ z => z)
  intro P hP
  have hs := hc.sh
  have hru := hc.ru
  have hca := hc.ca
  have hbe := hc.be
  have hok := hc.ok
  obtain ⟨hrl, hrl5⟩ := hbe.rl hok.1
  rw [bv0 (by omega) (by omega)] at hrl5
  have hh3 := hbe.2.2.2.1
  rw [bv0 (by omega) (by omega)] at hh3
  have hall := hc.all
  refine CP.of (by decide +kernel) (Nat.le_of_ble_eq_true rfl) fun X hX hR hnm => ?_
  show V X G 4 0 0 _ 0 [some (.ref 0), some (.int seed), none, none] [] h
  refine v_aload_n hX rfl qX11_drawn_0 ?_
  refine v_getR hX g_X11_10 (hs.kd 0 rfl) (hs.rf 0 rfl) qX11_drawn_1 ?_
  refine v_callVq hX hR k_X11_208 (hs.kd 1 rfl) (c_allOdds (by exact hs) (by exact (Or.inl rfl))) rfl (Nat.le_of_ble_eq_true rfl) rfl (Nat.le_of_ble_eq_true rfl) ⟨Nat.le_of_ble_eq_true rfl, Nat.le_of_ble_eq_true rfl⟩ qX11_drawn_4 ?_
  rintro _ _ ⟨rfl, rfl⟩
  refine v_eqI (show _ = allI (sB E) from hall) ?_
  refine v_istore_n hX (Nat.le_of_ble_eq_true rfl) rfl (ls' := [some _, some _, some _, none]) rfl qX11_drawn_7 ?_
  refine v_iload_n hX rfl qX11_drawn_8 ?_
  refine v_if_gtS hX 14 qX11_drawn_9 rfl (fun q9 => ?_) (fun q9 => ?_)
  · skip
    refine v_iload_n hX rfl qX11_drawn_14 ?_
    refine v_ldc_w hX c_X11_271 qX11_drawn_15 ?_
    refine v_imul hX qX11_drawn_18 ?_
    refine v_sipush hX ls_12345 qX11_drawn_19 ?_
    refine v_iadd hX qX11_drawn_22 ?_
    refine v_istore_n hX (Nat.le_of_ble_eq_true rfl) rfl (ls' := [some _, some _, some _, some _]) rfl qX11_drawn_23 ?_
    refine v_aload_n hX rfl qX11_drawn_24 ?_
    refine v_getR hX g_X11_10 (hs.kd 0 rfl) (hs.rf 0 rfl) qX11_drawn_25 ?_
    refine v_iload_n hX rfl qX11_drawn_28 ?_
    refine v_iconst hX li_4 qX11_drawn_29 ?_
    refine v_iushr hX qX11_drawn_30 ?_
    refine v_iload_n hX rfl qX11_drawn_31 ?_
    refine v_irem hX (fun z => by rw [z] at q9; exact absurd q9 (by decide)) qX11_drawn_32 ?_
    refine v_callVq hX hR k_X11_272 (hs.kd 1 rfl) (c_cellBehind (by exact hs) (by exact (Or.inl rfl)) _) rfl (Nat.le_of_ble_eq_true rfl) rfl (Nat.le_of_ble_eq_true rfl) ⟨Nat.le_of_ble_eq_true rfl, Nat.le_of_ble_eq_true rfl⟩ qX11_drawn_33 ?_
    rintro _ _ ⟨rfl, rfl⟩
    refine v_ireturn hX qX11_drawn_36 (hP _ _ ?_)
    refine ⟨?_, rfl⟩
    rw [drawnI, if_pos q9]
    exact congrArg (fun z => some (Value.int z)) (fx_congr 48 0 (fun k _ hk => by rw [sumN_congr (k + 1) (fun j hj => (bv1 (B := 1) (show j < 48 by omega)).symm), hc.b]; rfl))
  · skip
    refine v_iconst hX li_n1 qX11_drawn_12 ?_
    refine v_ireturn hX qX11_drawn_13 (hP _ _ ?_)
    exact ⟨by rw [drawnI, if_neg (Int32.not_lt.mpr q9)], rfl⟩
theorem qX11_foundBy_0 : Dq cX11_foundBy 0 (.iload_n 2) 1 1 := ⟨by decide +kernel, rfl⟩
theorem qX11_foundBy_1 : Dq cX11_foundBy 1 (.iconst 1) 1 2 := ⟨by decide +kernel, rfl⟩
theorem qX11_foundBy_2 : Dq cX11_foundBy 2 (.bipush 20) 2 4 := ⟨by decide +kernel, rfl⟩
theorem qX11_foundBy_4 : Dq cX11_foundBy 4 (.invokestatic 110) 3 7 := ⟨by decide +kernel, rfl⟩
theorem qX11_foundBy_7 : Dq cX11_foundBy 7 (.ifCond .ne 6) 3 10 := ⟨by decide +kernel, rfl⟩
theorem qX11_foundBy_10 : Dq cX11_foundBy 10 (.bipush (-2)) 2 12 := ⟨by decide +kernel, rfl⟩
theorem qX11_foundBy_12 : Dq cX11_foundBy 12 (.ireturn) 1 13 := ⟨by decide +kernel, rfl⟩
theorem qX11_foundBy_13 : Dq cX11_foundBy 13 (.aload_n 0) 1 14 := ⟨by decide +kernel, rfl⟩
theorem qX11_foundBy_14 : Dq cX11_foundBy 14 (.bipush 20) 2 16 := ⟨by decide +kernel, rfl⟩
theorem qX11_foundBy_16 : Dq cX11_foundBy 16 (.invokevirtual 188) 3 19 := ⟨by decide +kernel, rfl⟩
theorem qX11_foundBy_19 : Dq cX11_foundBy 19 (.iconst 0) 1 20 := ⟨by decide +kernel, rfl⟩
theorem qX11_foundBy_20 : Dq cX11_foundBy 20 (.istore_n 3) 1 21 := ⟨by decide +kernel, rfl⟩
theorem qX11_foundBy_21 : Dq cX11_foundBy 21 (.iconst 0) 1 22 := ⟨by decide +kernel, rfl⟩
theorem qX11_foundBy_22 : Dq cX11_foundBy 22 (.istore 4) 2 24 := ⟨by decide +kernel, rfl⟩
theorem qX11_foundBy_24 : Dq cX11_foundBy 24 (.iload 4) 2 26 := ⟨by decide +kernel, rfl⟩
theorem qX11_foundBy_26 : Dq cX11_foundBy 26 (.iload_n 2) 1 27 := ⟨by decide +kernel, rfl⟩
theorem qX11_foundBy_27 : Dq cX11_foundBy 27 (.if_icmp .ge 30) 3 30 := ⟨by decide +kernel, rfl⟩
theorem qX11_foundBy_30 : Dq cX11_foundBy 30 (.aload_n 0) 1 31 := ⟨by decide +kernel, rfl⟩
theorem qX11_foundBy_31 : Dq cX11_foundBy 31 (.getfield 45) 3 34 := ⟨by decide +kernel, rfl⟩
theorem qX11_foundBy_34 : Dq cX11_foundBy 34 (.aload_n 0) 1 35 := ⟨by decide +kernel, rfl⟩
theorem qX11_foundBy_35 : Dq cX11_foundBy 35 (.iload_n 1) 1 36 := ⟨by decide +kernel, rfl⟩
theorem qX11_foundBy_36 : Dq cX11_foundBy 36 (.iload 4) 2 38 := ⟨by decide +kernel, rfl⟩
theorem qX11_foundBy_38 : Dq cX11_foundBy 38 (.iadd) 1 39 := ⟨by decide +kernel, rfl⟩
theorem qX11_foundBy_39 : Dq cX11_foundBy 39 (.invokevirtual 275) 3 42 := ⟨by decide +kernel, rfl⟩
theorem qX11_foundBy_42 : Dq cX11_foundBy 42 (.invokevirtual 278) 3 45 := ⟨by decide +kernel, rfl⟩
theorem qX11_foundBy_45 : Dq cX11_foundBy 45 (.ifCond .eq 6) 3 48 := ⟨by decide +kernel, rfl⟩
theorem qX11_foundBy_48 : Dq cX11_foundBy 48 (.iinc 3 1) 3 51 := ⟨by decide +kernel, rfl⟩
theorem qX11_foundBy_51 : Dq cX11_foundBy 51 (.iinc 4 1) 3 54 := ⟨by decide +kernel, rfl⟩
theorem qX11_foundBy_54 : Dq cX11_foundBy 54 (.goto (-30)) 3 57 := ⟨by decide +kernel, rfl⟩
theorem qX11_foundBy_57 : Dq cX11_foundBy 57 (.iload_n 3) 1 58 := ⟨by decide +kernel, rfl⟩
theorem qX11_foundBy_58 : Dq cX11_foundBy 58 (.ireturn) 1 59 := ⟨by decide +kernel, rfl⟩
set_option maxRecDepth 100000 in
set_option maxHeartbeats 4000000 in
theorem c_foundBy {G : Glb} {h : AHp} {E : Sst} (hc : CV h E) (seed n : Int32) : CP G m_X11_foundBy 8 0 0 [.ref 0, .int seed, .int n] h (fun r h' => r = some (.int (foundByI E seed n)) ∧ ∃ σ, h' = (σ, h.2) ∧ CV (σ, h.2) E ∧ K38 h σ) := by
  suffices key : ∀ P : Option Value → AHp → Prop, (∀ r h', (r = some (.int (foundByI E seed n)) ∧ ∃ σ, h' = (σ, h.2) ∧ CV (σ, h.2) E ∧ K38 h σ) → P r h') → CP G m_X11_foundBy 8 0 0 [.ref 0, .int seed, .int n] h P from key _ (fun _ _ z => z)
  intro P hP
  have hs := hc.sh
  have hru := hc.ru
  have hca := hc.ca
  have hbe := hc.be
  have hok := hc.ok
  obtain ⟨hrl, hrl5⟩ := hbe.rl hok.1
  rw [bv0 (by omega) (by omega)] at hrl5
  have hh3 := hbe.2.2.2.1
  rw [bv0 (by omega) (by omega)] at hh3
  obtain ⟨e, hp⟩ := hc.pt
  have hm6 := hp.2.1
  have hnu := hc.nu
  have hsz : szE E 20 ≤ 20 := by have z : szE E 20 ≤ 0 + 20 := fc_le (p := pSt (sT E) (sM E) (sK E) (sN E) (sB E)) 20 0; omega
  refine CP.of (by decide +kernel) (Nat.le_of_ble_eq_true rfl) fun X hX hR hnm => ?_
  show V X G 5 0 0 _ 0 [some (.ref 0), some (.int seed), some (.int n), none, none] [] h
  refine v_iload_n hX rfl qX11_foundBy_0 ?_
  refine v_iconst hX li_1 qX11_foundBy_1 ?_
  refine v_bipush hX lb_20 qX11_foundBy_2 ?_
  refine v_callSq hX hR k_X11_110 (c_isWithin _ _ _) rfl (Nat.le_of_ble_eq_true rfl) rfl (Nat.le_of_ble_eq_true rfl) ⟨Nat.le_of_ble_eq_true rfl, Nat.le_of_ble_eq_true rfl⟩ qX11_foundBy_4 ?_
  rintro _ _ ⟨rfl, rfl⟩
  first | refine v_if_neB hX 13 qX11_foundBy_7 rfl (fun q7 => ?_) (fun q7 => ?_) | refine v_if_ne hX 13 qX11_foundBy_7 rfl (fun q7 => ?_) (fun q7 => ?_)
  · obtain ⟨nn, hnn, rfl⟩ := rng_ex 20 (by omega) ⟨leI.mpr (by have := leI.mp q7.1; have e1 : (1 : Int32).toInt = 1 := rfl; have e0 : (0 : Int32).toInt = 0 := rfl; omega), q7.2⟩
    refine v_aload_n hX rfl qX11_foundBy_13 ?_
    refine v_bipush hX lb_20 qX11_foundBy_14 ?_
    refine v_callVq hX hR k_X11_188 (hs.kd 0 rfl) (c_makePlan (by exact hs) (by exact hru) (by exact hca) (by exact hbe) (by exact hp) (by exact hnu) (n := 20) (by omega)) rfl (Nat.le_of_ble_eq_true rfl) rfl (Nat.le_of_ble_eq_true rfl) ⟨Nat.le_of_ble_eq_true rfl, Nat.le_of_ble_eq_true rfl⟩ qX11_foundBy_16 ?_
    rintro _ _ ⟨rfl, σ, rfl, hf, hca2, z2, zc, z3, z4⟩
    have hcv := hc.p hf hca2
    rw [hc.b] at z2 zc z3 z4
    refine v_iconst hX li_0 qX11_foundBy_19 ?_
    refine v_istore_n hX (Nat.le_of_ble_eq_true rfl) rfl (ls' := [some _, some _, some _, some _, none]) rfl qX11_foundBy_20 ?_
    refine v_iconst hX li_0 qX11_foundBy_21 ?_
    refine v_istore hX (Nat.le_of_ble_eq_true rfl) rfl (ls' := [some _, some _, some _, some _, some _]) rfl qX11_foundBy_22 ?_
    have L24 : ∀ (mz : Nat) (k : Nat), nn - k = mz → (k ≤ nn) → V X G 5 0 0 (QM X G P 0 0) 24 [some (.ref 0), some (.int seed), some (.int (nI nn)), some (.int (fbS E seed k)), some (.int (nI k))] [] (σ, h.2) := by
      intro mz
      induction mz using Nat.strongRecOn with
      | _ mz ih =>
      intro k hm hi
      refine v_iload hX rfl qX11_foundBy_24 ?_
      refine v_iload_n hX rfl qX11_foundBy_26 ?_
      refine v_icmp_geS hX 57 qX11_foundBy_27 rfl (fun q27 => ?_) (fun q27 => ?_)
      · have e1 : k = nn := Nat.le_antisymm hi (nI_le' (by omega) (by omega) q27)
        subst e1
        refine v_iload_n hX rfl qX11_foundBy_57 ?_
        refine v_ireturn hX qX11_foundBy_58 (hP _ _ ?_)
        rw [foundByI, if_pos q7, tn_nI (show k < 2000000 by omega)]
        exact ⟨rfl, σ, rfl, hcv, hf.k⟩
      · have hl := nI_lt' (by omega) (by omega) q27
        refine v_aload_n hX rfl qX11_foundBy_30 ?_
        refine v_getR hX g_X11_45 (hs.kd 0 rfl) (hs.rf 6 rfl) qX11_foundBy_31 ?_
        refine v_aload_n hX rfl qX11_foundBy_34 ?_
        refine v_iload_n hX rfl qX11_foundBy_35 ?_
        refine v_iload hX rfl qX11_foundBy_36 ?_
        refine v_iadd hX qX11_foundBy_38 ?_
        refine v_callVq hX hR k_X11_275 (hs.kd 0 rfl) (c_drawn (by exact hcv) _) rfl (Nat.le_of_ble_eq_true rfl) rfl (Nat.le_of_ble_eq_true rfl) ⟨Nat.le_of_ble_eq_true rfl, Nat.le_of_ble_eq_true rfl⟩ qX11_foundBy_39 ?_
        rintro _ _ ⟨rfl, rfl⟩
        refine v_callVq hX hR k_X11_278 (hs.kd 26 rfl) (c_hasCell (by exact hs) (by exact z2) (by exact hsz) _) rfl (Nat.le_of_ble_eq_true rfl) rfl (Nat.le_of_ble_eq_true rfl) ⟨Nat.le_of_ble_eq_true rfl, Nat.le_of_ble_eq_true rfl⟩ qX11_foundBy_42 ?_
        rintro _ _ ⟨rfl, rfl⟩
        first | refine v_if_eqB hX 51 qX11_foundBy_45 rfl (fun q45 => ?_) (fun q45 => ?_) | refine v_if_eq hX 51 qX11_foundBy_45 rfl (fun q45 => ?_) (fun q45 => ?_)
        · have hany : ¬ anyB (fun i => decide (ceE E i = drawnI (sB E) (seed + nI k))) (szE E 20) = true := fun z => q45 (by rw [← z]; exact anyB_congr _ (fun j hj => by show decide (σ 27 j = _) = _; rw [(zc j hj).1]))
          refine v_iinc hX rfl (ii_nI _) (Nat.le_of_ble_eq_true rfl) rfl (ls' := [some _, some _, some _, some _, some _]) rfl qX11_foundBy_51 ?_
          refine v_goto hX 24 qX11_foundBy_54 rfl ?_
          first | (have e1 : fbS E seed (k + 1) = fbS E seed k + 1 := if_pos hany; have z := ih _ (by omega) (k + 1) rfl (by omega); rw [e1] at z; exact z) | (have e1 : fbS E seed (k + 1) = fbS E seed k := if_neg hany; have z := ih _ (by omega) (k + 1) rfl (by omega); rw [e1] at z; exact z)
        · have hany : anyB (fun i => decide (ceE E i = drawnI (sB E) (seed + nI k))) (szE E 20) = true := by rw [← q45]; exact anyB_congr _ (fun j hj => by show _ = decide (σ 27 j = _); rw [(zc j hj).1])
          refine v_iinc hX rfl (ii_1 _) (Nat.le_of_ble_eq_true rfl) rfl (ls' := [some _, some _, some _, some _, some _]) rfl qX11_foundBy_48 ?_
          refine v_iinc hX rfl (ii_nI _) (Nat.le_of_ble_eq_true rfl) rfl (ls' := [some _, some _, some _, some _, some _]) rfl qX11_foundBy_51 ?_
          refine v_goto hX 24 qX11_foundBy_54 rfl ?_
          first | (have e1 : fbS E seed (k + 1) = fbS E seed k + 1 := if_pos hany; have z := ih _ (by omega) (k + 1) rfl (by omega); rw [e1] at z; exact z) | (have e1 : fbS E seed (k + 1) = fbS E seed k := if_neg hany; have z := ih _ (by omega) (k + 1) rfl (by omega); rw [e1] at z; exact z)
    exact L24 _ 0 rfl (by omega)
  · skip
    refine v_bipush hX lb_n2 qX11_foundBy_10 ?_
    refine v_ireturn hX qX11_foundBy_12 (hP _ _ ?_)
    rw [foundByI, if_neg q7]
    exact ⟨rfl, h.1, rfl, hc, fun a _ => rfl⟩
theorem qX11_count_0 : Dq cX11_count 0 (.iload_n 1) 1 1 := ⟨by decide +kernel, rfl⟩
theorem qX11_count_1 : Dq cX11_count 1 (.tableswitch 108 0 7 #[47, 52, 60, 68, 76, 84, 92, 100]) 47 48 := ⟨by decide +kernel, rfl⟩
theorem qX11_count_48 : Dq cX11_count 48 (.aload_n 0) 1 49 := ⟨by decide +kernel, rfl⟩
theorem qX11_count_49 : Dq cX11_count 49 (.getfield 134) 3 52 := ⟨by decide +kernel, rfl⟩
theorem qX11_count_52 : Dq cX11_count 52 (.ireturn) 1 53 := ⟨by decide +kernel, rfl⟩
theorem qX11_count_53 : Dq cX11_count 53 (.aload_n 0) 1 54 := ⟨by decide +kernel, rfl⟩
theorem qX11_count_54 : Dq cX11_count 54 (.getfield 10) 3 57 := ⟨by decide +kernel, rfl⟩
theorem qX11_count_57 : Dq cX11_count 57 (.getfield 288) 3 60 := ⟨by decide +kernel, rfl⟩
theorem qX11_count_60 : Dq cX11_count 60 (.ireturn) 1 61 := ⟨by decide +kernel, rfl⟩
theorem qX11_count_61 : Dq cX11_count 61 (.aload_n 0) 1 62 := ⟨by decide +kernel, rfl⟩
theorem qX11_count_62 : Dq cX11_count 62 (.getfield 10) 3 65 := ⟨by decide +kernel, rfl⟩
theorem qX11_count_65 : Dq cX11_count 65 (.getfield 221) 3 68 := ⟨by decide +kernel, rfl⟩
theorem qX11_count_68 : Dq cX11_count 68 (.ireturn) 1 69 := ⟨by decide +kernel, rfl⟩
theorem qX11_count_69 : Dq cX11_count 69 (.aload_n 0) 1 70 := ⟨by decide +kernel, rfl⟩
theorem qX11_count_70 : Dq cX11_count 70 (.getfield 10) 3 73 := ⟨by decide +kernel, rfl⟩
theorem qX11_count_73 : Dq cX11_count 73 (.getfield 291) 3 76 := ⟨by decide +kernel, rfl⟩
theorem qX11_count_76 : Dq cX11_count 76 (.ireturn) 1 77 := ⟨by decide +kernel, rfl⟩
theorem qX11_count_77 : Dq cX11_count 77 (.aload_n 0) 1 78 := ⟨by decide +kernel, rfl⟩
theorem qX11_count_78 : Dq cX11_count 78 (.getfield 38) 3 81 := ⟨by decide +kernel, rfl⟩
theorem qX11_count_81 : Dq cX11_count 81 (.getfield 170) 3 84 := ⟨by decide +kernel, rfl⟩
theorem qX11_count_84 : Dq cX11_count 84 (.ireturn) 1 85 := ⟨by decide +kernel, rfl⟩
theorem qX11_count_85 : Dq cX11_count 85 (.aload_n 0) 1 86 := ⟨by decide +kernel, rfl⟩
theorem qX11_count_86 : Dq cX11_count 86 (.getfield 31) 3 89 := ⟨by decide +kernel, rfl⟩
theorem qX11_count_89 : Dq cX11_count 89 (.getfield 161) 3 92 := ⟨by decide +kernel, rfl⟩
theorem qX11_count_92 : Dq cX11_count 92 (.ireturn) 1 93 := ⟨by decide +kernel, rfl⟩
theorem qX11_count_93 : Dq cX11_count 93 (.aload_n 0) 1 94 := ⟨by decide +kernel, rfl⟩
theorem qX11_count_94 : Dq cX11_count 94 (.getfield 10) 3 97 := ⟨by decide +kernel, rfl⟩
theorem qX11_count_97 : Dq cX11_count 97 (.getfield 174) 3 100 := ⟨by decide +kernel, rfl⟩
theorem qX11_count_100 : Dq cX11_count 100 (.ireturn) 1 101 := ⟨by decide +kernel, rfl⟩
theorem qX11_count_101 : Dq cX11_count 101 (.aload_n 0) 1 102 := ⟨by decide +kernel, rfl⟩
theorem qX11_count_102 : Dq cX11_count 102 (.getfield 10) 3 105 := ⟨by decide +kernel, rfl⟩
theorem qX11_count_105 : Dq cX11_count 105 (.invokevirtual 294) 3 108 := ⟨by decide +kernel, rfl⟩
theorem qX11_count_108 : Dq cX11_count 108 (.ireturn) 1 109 := ⟨by decide +kernel, rfl⟩
theorem qX11_count_109 : Dq cX11_count 109 (.bipush (-2)) 2 111 := ⟨by decide +kernel, rfl⟩
theorem qX11_count_111 : Dq cX11_count 111 (.ireturn) 1 112 := ⟨by decide +kernel, rfl⟩
set_option maxRecDepth 100000 in
set_option maxHeartbeats 4000000 in
theorem c_count {G : Glb} {h : AHp} {E : Sst} (hc : CV h E) (w : Int32) : CP G m_X11_count 2 0 0 [.ref 0, .int w] h (fun r h' => r = some (.int (countI E w)) ∧ h = h') := by
  suffices key : ∀ P : Option Value → AHp → Prop, (∀ r h', (r = some (.int (countI E w)) ∧ h = h') → P r h') → CP G m_X11_count 2 0 0 [.ref 0, .int w] h P from key _ (fun _ _ z => z)
  intro P hP
  have hs := hc.sh
  have hru := hc.ru
  have hca := hc.ca
  have hbe := hc.be
  have hok := hc.ok
  obtain ⟨hrl, hrl5⟩ := hbe.rl hok.1
  rw [bv0 (by omega) (by omega)] at hrl5
  have hh3 := hbe.2.2.2.1
  rw [bv0 (by omega) (by omega)] at hh3
  obtain ⟨e, hp⟩ := hc.pt
  refine CP.of (by decide +kernel) (Nat.le_of_ble_eq_true rfl) fun X hX hR hnm => ?_
  show V X G 2 0 0 _ 0 [some (.ref 0), some (.int w)] [] h
  refine v_iload_n hX rfl qX11_count_0 ?_
  refine v_case (0 : Int32) (fun q1 => ?_) (fun q1_0 => ?_)
  · skip
    refine v_tableIn (off := 47) hX 48 qX11_count_1 (by first | exact (by rw [q1]; decide) | decide) (by first | exact (by rw [q1]; decide) | decide) (by first | exact (by rw [q1]; rfl) | rfl) rfl ?_
    refine v_aload_n hX rfl qX11_count_48 ?_
    refine v_getIv hX g_X11_134 (Or.inl rfl) (hs.kd 0 rfl) hp.1 qX11_count_49 ?_
    refine v_ireturn hX qX11_count_52 (hP _ _ ?_)
    rw [countI, if_pos q1]
    exact ⟨rfl, rfl⟩
  refine v_case (1 : Int32) (fun q1 => ?_) (fun q1_1 => ?_)
  · skip
    refine v_tableIn (off := 52) hX 53 qX11_count_1 (by first | exact (by rw [q1]; decide) | decide) (by first | exact (by rw [q1]; decide) | decide) (by first | exact (by rw [q1]; rfl) | rfl) rfl ?_
    refine v_aload_n hX rfl qX11_count_53 ?_
    refine v_getR hX g_X11_10 (hs.kd 0 rfl) (hs.rf 0 rfl) qX11_count_54 ?_
    refine v_getIv hX g_X11_288 (Or.inl rfl) (hs.kd 1 rfl) (hc.f (by omega) (by omega)) qX11_count_57 ?_
    refine v_ireturn hX qX11_count_60 (hP _ _ ?_)
    rw [countI, if_neg (by rw [q1]; decide), if_pos q1]
    exact ⟨rfl, rfl⟩
  refine v_case (2 : Int32) (fun q1 => ?_) (fun q1_2 => ?_)
  · skip
    refine v_tableIn (off := 60) hX 61 qX11_count_1 (by first | exact (by rw [q1]; decide) | decide) (by first | exact (by rw [q1]; decide) | decide) (by first | exact (by rw [q1]; rfl) | rfl) rfl ?_
    refine v_aload_n hX rfl qX11_count_61 ?_
    refine v_getR hX g_X11_10 (hs.kd 0 rfl) (hs.rf 0 rfl) qX11_count_62 ?_
    refine v_getIv hX g_X11_221 (Or.inl rfl) (hs.kd 1 rfl) (hc.f (by omega) (by omega)) qX11_count_65 ?_
    refine v_ireturn hX qX11_count_68 (hP _ _ ?_)
    rw [countI, if_neg (by rw [q1]; decide), if_neg (by rw [q1]; decide), if_pos q1]
    exact ⟨rfl, rfl⟩
  refine v_case (3 : Int32) (fun q1 => ?_) (fun q1_3 => ?_)
  · skip
    refine v_tableIn (off := 68) hX 69 qX11_count_1 (by first | exact (by rw [q1]; decide) | decide) (by first | exact (by rw [q1]; decide) | decide) (by first | exact (by rw [q1]; rfl) | rfl) rfl ?_
    refine v_aload_n hX rfl qX11_count_69 ?_
    refine v_getR hX g_X11_10 (hs.kd 0 rfl) (hs.rf 0 rfl) qX11_count_70 ?_
    refine v_getIv hX g_X11_291 (Or.inl rfl) (hs.kd 1 rfl) (hc.f (by omega) (by omega)) qX11_count_73 ?_
    refine v_ireturn hX qX11_count_76 (hP _ _ ?_)
    rw [countI, if_neg (by rw [q1]; decide), if_neg (by rw [q1]; decide), if_neg (by rw [q1]; decide), if_pos q1]
    exact ⟨rfl, rfl⟩
  refine v_case (4 : Int32) (fun q1 => ?_) (fun q1_4 => ?_)
  · skip
    refine v_tableIn (off := 76) hX 77 qX11_count_1 (by first | exact (by rw [q1]; decide) | decide) (by first | exact (by rw [q1]; decide) | decide) (by first | exact (by rw [q1]; rfl) | rfl) rfl ?_
    refine v_aload_n hX rfl qX11_count_77 ?_
    refine v_getR hX g_X11_38 (hs.kd 0 rfl) (hs.rf 5 rfl) qX11_count_78 ?_
    refine v_getIv hX g_X11_170 (Or.inl rfl) (hs.kd 17 rfl) hru.1 qX11_count_81 ?_
    refine v_ireturn hX qX11_count_84 (hP _ _ ?_)
    rw [countI, if_neg (by rw [q1]; decide), if_neg (by rw [q1]; decide), if_neg (by rw [q1]; decide), if_neg (by rw [q1]; decide), if_pos q1]
    exact ⟨rfl, rfl⟩
  refine v_case (5 : Int32) (fun q1 => ?_) (fun q1_5 => ?_)
  · skip
    refine v_tableIn (off := 84) hX 85 qX11_count_1 (by first | exact (by rw [q1]; decide) | decide) (by first | exact (by rw [q1]; decide) | decide) (by first | exact (by rw [q1]; rfl) | rfl) rfl ?_
    refine v_aload_n hX rfl qX11_count_85 ?_
    refine v_getR hX g_X11_31 (hs.kd 0 rfl) (hs.rf 4 rfl) qX11_count_86 ?_
    refine v_getIv hX g_X11_161 (Or.inl rfl) (hs.kd 11 rfl) hc.tp.1 qX11_count_89 ?_
    refine v_ireturn hX qX11_count_92 (hP _ _ ?_)
    rw [countI, if_neg (by rw [q1]; decide), if_neg (by rw [q1]; decide), if_neg (by rw [q1]; decide), if_neg (by rw [q1]; decide), if_neg (by rw [q1]; decide), if_pos q1]
    exact ⟨rfl, rfl⟩
  refine v_case (6 : Int32) (fun q1 => ?_) (fun q1_6 => ?_)
  · skip
    refine v_tableIn (off := 92) hX 93 qX11_count_1 (by first | exact (by rw [q1]; decide) | decide) (by first | exact (by rw [q1]; decide) | decide) (by first | exact (by rw [q1]; rfl) | rfl) rfl ?_
    refine v_aload_n hX rfl qX11_count_93 ?_
    refine v_getR hX g_X11_10 (hs.kd 0 rfl) (hs.rf 0 rfl) qX11_count_94 ?_
    refine v_getIv hX g_X11_174 (Or.inl rfl) (hs.kd 1 rfl) (hc.f (by omega) (by omega)) qX11_count_97 ?_
    refine v_ireturn hX qX11_count_100 (hP _ _ ?_)
    rw [countI, if_neg (by rw [q1]; decide), if_neg (by rw [q1]; decide), if_neg (by rw [q1]; decide), if_neg (by rw [q1]; decide), if_neg (by rw [q1]; decide), if_neg (by rw [q1]; decide), if_pos q1]
    exact ⟨rfl, rfl⟩
  refine v_case (7 : Int32) (fun q1 => ?_) (fun q1_7 => ?_)
  · skip
    refine v_tableIn (off := 100) hX 101 qX11_count_1 (by first | exact (by rw [q1]; decide) | decide) (by first | exact (by rw [q1]; decide) | decide) (by first | exact (by rw [q1]; rfl) | rfl) rfl ?_
    refine v_aload_n hX rfl qX11_count_101 ?_
    refine v_getR hX g_X11_10 (hs.kd 0 rfl) (hs.rf 0 rfl) qX11_count_102 ?_
    refine v_callVq hX hR k_X11_294 (hs.kd 1 rfl) (c_allTreads (by exact hs) (by exact (Or.inl rfl))) rfl (Nat.le_of_ble_eq_true rfl) rfl (Nat.le_of_ble_eq_true rfl) ⟨Nat.le_of_ble_eq_true rfl, Nat.le_of_ble_eq_true rfl⟩ qX11_count_105 ?_
    rintro _ _ ⟨rfl, rfl⟩
    refine v_ireturn hX qX11_count_108 (hP _ _ ?_)
    rw [countI, if_neg (by rw [q1]; decide), if_neg (by rw [q1]; decide), if_neg (by rw [q1]; decide), if_neg (by rw [q1]; decide), if_neg (by rw [q1]; decide), if_neg (by rw [q1]; decide), if_neg (by rw [q1]; decide), if_pos q1]
    refine ⟨?_, rfl⟩
    rw [sumN_congr 48 (fun k hk => (bv2 (B := 1) hk).symm), hc.b]
  refine v_tableOut hX 109 qX11_count_1 ?_ rfl ?_
  · have z0 := ne_i (0) (by decide) q1_0; have z1 := ne_i (1) (by decide) q1_1; have z2 := ne_i (2) (by decide) q1_2; have z3 := ne_i (3) (by decide) q1_3; have z4 := ne_i (4) (by decide) q1_4; have z5 := ne_i (5) (by decide) q1_5; have z6 := ne_i (6) (by decide) q1_6; have z7 := ne_i (7) (by decide) q1_7; omega
  refine v_bipush hX lb_n2 qX11_count_109 ?_
  refine v_ireturn hX qX11_count_111 (hP _ _ ?_)
  exact ⟨by rw [countI, if_neg q1_0, if_neg q1_1, if_neg q1_2, if_neg q1_3, if_neg q1_4, if_neg q1_5, if_neg q1_6, if_neg q1_7], rfl⟩
