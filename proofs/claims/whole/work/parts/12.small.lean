/-! small rows: truth values, places in rows, switches, constants -/
theorem li_n1 : Int32.ofInt (-1) = (-1 : Int32) := by decide
theorem li_0 : Int32.ofInt (0) = (0 : Int32) := by decide
theorem li_1 : Int32.ofInt (1) = (1 : Int32) := by decide
theorem li_2 : Int32.ofInt (2) = (2 : Int32) := by decide
theorem li_3 : Int32.ofInt (3) = (3 : Int32) := by decide
theorem li_4 : Int32.ofInt (4) = (4 : Int32) := by decide
theorem li_5 : Int32.ofInt (5) = (5 : Int32) := by decide
theorem lb_n100 : (Int8.ofInt (-100)).toInt32 = (-100 : Int32) := by decide
theorem lb_n15 : (Int8.ofInt (-15)).toInt32 = (-15 : Int32) := by decide
theorem lb_n14 : (Int8.ofInt (-14)).toInt32 = (-14 : Int32) := by decide
theorem lb_n13 : (Int8.ofInt (-13)).toInt32 = (-13 : Int32) := by decide
theorem lb_n12 : (Int8.ofInt (-12)).toInt32 = (-12 : Int32) := by decide
theorem lb_n11 : (Int8.ofInt (-11)).toInt32 = (-11 : Int32) := by decide
theorem lb_n10 : (Int8.ofInt (-10)).toInt32 = (-10 : Int32) := by decide
theorem lb_n9 : (Int8.ofInt (-9)).toInt32 = (-9 : Int32) := by decide
theorem lb_n8 : (Int8.ofInt (-8)).toInt32 = (-8 : Int32) := by decide
theorem lb_n7 : (Int8.ofInt (-7)).toInt32 = (-7 : Int32) := by decide
theorem lb_n6 : (Int8.ofInt (-6)).toInt32 = (-6 : Int32) := by decide
theorem lb_n5 : (Int8.ofInt (-5)).toInt32 = (-5 : Int32) := by decide
theorem lb_n4 : (Int8.ofInt (-4)).toInt32 = (-4 : Int32) := by decide
theorem lb_n3 : (Int8.ofInt (-3)).toInt32 = (-3 : Int32) := by decide
theorem lb_n2 : (Int8.ofInt (-2)).toInt32 = (-2 : Int32) := by decide
theorem lb_6 : (Int8.ofInt (6)).toInt32 = (6 : Int32) := by decide
theorem lb_7 : (Int8.ofInt (7)).toInt32 = (7 : Int32) := by decide
theorem lb_8 : (Int8.ofInt (8)).toInt32 = (8 : Int32) := by decide
theorem lb_9 : (Int8.ofInt (9)).toInt32 = (9 : Int32) := by decide
theorem lb_10 : (Int8.ofInt (10)).toInt32 = (10 : Int32) := by decide
theorem lb_12 : (Int8.ofInt (12)).toInt32 = (12 : Int32) := by decide
theorem lb_13 : (Int8.ofInt (13)).toInt32 = (13 : Int32) := by decide
theorem lb_16 : (Int8.ofInt (16)).toInt32 = (16 : Int32) := by decide
theorem lb_19 : (Int8.ofInt (19)).toInt32 = (19 : Int32) := by decide
theorem lb_20 : (Int8.ofInt (20)).toInt32 = (20 : Int32) := by decide
theorem lb_23 : (Int8.ofInt (23)).toInt32 = (23 : Int32) := by decide
theorem lb_24 : (Int8.ofInt (24)).toInt32 = (24 : Int32) := by decide
theorem lb_30 : (Int8.ofInt (30)).toInt32 = (30 : Int32) := by decide
theorem lb_31 : (Int8.ofInt (31)).toInt32 = (31 : Int32) := by decide
theorem lb_32 : (Int8.ofInt (32)).toInt32 = (32 : Int32) := by decide
theorem lb_40 : (Int8.ofInt (40)).toInt32 = (40 : Int32) := by decide
theorem lb_41 : (Int8.ofInt (41)).toInt32 = (41 : Int32) := by decide
theorem lb_42 : (Int8.ofInt (42)).toInt32 = (42 : Int32) := by decide
theorem lb_43 : (Int8.ofInt (43)).toInt32 = (43 : Int32) := by decide
theorem lb_45 : (Int8.ofInt (45)).toInt32 = (45 : Int32) := by decide
theorem lb_47 : (Int8.ofInt (47)).toInt32 = (47 : Int32) := by decide
theorem lb_48 : (Int8.ofInt (48)).toInt32 = (48 : Int32) := by decide
theorem lb_49 : (Int8.ofInt (49)).toInt32 = (49 : Int32) := by decide
theorem lb_52 : (Int8.ofInt (52)).toInt32 = (52 : Int32) := by decide
theorem lb_55 : (Int8.ofInt (55)).toInt32 = (55 : Int32) := by decide
theorem lb_56 : (Int8.ofInt (56)).toInt32 = (56 : Int32) := by decide
theorem lb_57 : (Int8.ofInt (57)).toInt32 = (57 : Int32) := by decide
theorem lb_59 : (Int8.ofInt (59)).toInt32 = (59 : Int32) := by decide
theorem lb_60 : (Int8.ofInt (60)).toInt32 = (60 : Int32) := by decide
theorem lb_61 : (Int8.ofInt (61)).toInt32 = (61 : Int32) := by decide
theorem lb_64 : (Int8.ofInt (64)).toInt32 = (64 : Int32) := by decide
theorem lb_70 : (Int8.ofInt (70)).toInt32 = (70 : Int32) := by decide
theorem lb_72 : (Int8.ofInt (72)).toInt32 = (72 : Int32) := by decide
theorem lb_97 : (Int8.ofInt (97)).toInt32 = (97 : Int32) := by decide
theorem lb_99 : (Int8.ofInt (99)).toInt32 = (99 : Int32) := by decide
theorem lb_100 : (Int8.ofInt (100)).toInt32 = (100 : Int32) := by decide
theorem lb_101 : (Int8.ofInt (101)).toInt32 = (101 : Int32) := by decide
theorem lb_104 : (Int8.ofInt (104)).toInt32 = (104 : Int32) := by decide
theorem lb_105 : (Int8.ofInt (105)).toInt32 = (105 : Int32) := by decide
theorem lb_110 : (Int8.ofInt (110)).toInt32 = (110 : Int32) := by decide
theorem lb_111 : (Int8.ofInt (111)).toInt32 = (111 : Int32) := by decide
theorem lb_112 : (Int8.ofInt (112)).toInt32 = (112 : Int32) := by decide
theorem lb_114 : (Int8.ofInt (114)).toInt32 = (114 : Int32) := by decide
theorem lb_115 : (Int8.ofInt (115)).toInt32 = (115 : Int32) := by decide
theorem lb_116 : (Int8.ofInt (116)).toInt32 = (116 : Int32) := by decide
theorem lb_117 : (Int8.ofInt (117)).toInt32 = (117 : Int32) := by decide
theorem lb_120 : (Int8.ofInt (120)).toInt32 = (120 : Int32) := by decide
theorem lb_121 : (Int8.ofInt (121)).toInt32 = (121 : Int32) := by decide
theorem lb_122 : (Int8.ofInt (122)).toInt32 = (122 : Int32) := by decide
theorem ls_159 : (Int16.ofInt (159)).toInt32 = (159 : Int32) := by decide
theorem ls_160 : (Int16.ofInt (160)).toInt32 = (160 : Int32) := by decide
theorem ls_161 : (Int16.ofInt (161)).toInt32 = (161 : Int32) := by decide
theorem ls_200 : (Int16.ofInt (200)).toInt32 = (200 : Int32) := by decide
theorem ls_255 : (Int16.ofInt (255)).toInt32 = (255 : Int32) := by decide
theorem ls_960 : (Int16.ofInt (960)).toInt32 = (960 : Int32) := by decide
theorem ls_9999 : (Int16.ofInt (9999)).toInt32 = (9999 : Int32) := by decide
theorem ls_12345 : (Int16.ofInt (12345)).toInt32 = (12345 : Int32) := by decide
theorem ll_0 : Int64.ofNat ((0 : Fin 2) : Nat) = (0 : Int64) := by decide
theorem ll_1 : Int64.ofNat ((1 : Fin 2) : Nat) = (1 : Int64) := by decide
def bz (p : Prop) [Decidable p] : Int32 := if p then 1 else 0
theorem bz_t {p : Prop} [Decidable p] (h : p) : bz p = 1 := if_pos h
theorem bz_f {p : Prop} [Decidable p] (h : ¬ p) : bz p = 0 := if_neg h
theorem bz01 (p : Prop) [Decidable p] : bz p = 0 ∨ bz p = 1 := by by_cases h : p <;> simp [bz, h]
theorem bz_0 {p : Prop} [Decidable p] : bz p = 0 ↔ ¬ p := by by_cases h : p <;> simp [bz, h]
theorem bz_1 {p : Prop} [Decidable p] : bz p = 1 ↔ p := by by_cases h : p <;> simp [bz, h]
theorem bz_c {p q : Prop} [Decidable p] [Decidable q] (h : p ↔ q) : bz p = bz q := by by_cases hq : q <;> simp [bz, hq, h]
theorem ii_nI (n : Nat) : nI n + Int32.ofInt 1 = nI (n + 1) := nI_1 n
theorem ii_1 (x : Int32) : x + Int32.ofInt 1 = x + 1 := rfl
theorem nz_0 : narrow .boolean (.int 0) = .int 0 ∧ fits .boolean (.int 0) = true := ⟨rfl, rfl⟩
theorem nz_1 : narrow .boolean (.int 1) = .int 1 ∧ fits .boolean (.int 1) = true := ⟨rfl, rfl⟩
theorem nz_b (p : Prop) [Decidable p] : narrow .boolean (.int (bz p)) = .int (bz p) ∧ fits .boolean (.int (bz p)) = true := by
  rcases bz01 p with h | h <;> rw [h] <;> exact ⟨rfl, rfl⟩
/-- i names the place j of a row of L -/
def IX (i : Int32) (j L : Nat) : Prop := i.toNatClampNeg = j ∧ ¬ i < 0 ∧ j < L
theorem ix_n {n L : Nat} (h : n < L) (hL : Nat.ble L 2000000 = true) : IX (nI n) n L := by
  have hL := Nat.le_of_ble_eq_true hL
  exact ⟨nI_clamp (by omega), nI_pos (by omega), h⟩
theorem IX.of {i : Int32} {L : Nat} (h0 : 0 ≤ i) (h1 : i.toInt < L) : IX i i.toNatClampNeg L := by
  have h2 := Int32.le_iff_toInt_le.mp h0
  have h3 : (0 : Int32).toInt = 0 := rfl
  refine ⟨rfl, Int32.not_lt.mpr h0, ?_⟩
  show i.toInt.toNat < L
  omega
theorem IX.vp {i : Int32} {j L : Nat} (h : IX i j L) : vp_in i L := by
  rintro (q | q)
  · exact h.2.1 q
  · exact absurd (h.1 ▸ q) (Nat.not_le.mpr h.2.2)
abbrev isC (i : Int32) : Prop := 0 ≤ i ∧ i ≤ 47
theorem tl_0 : (0 : Int32).toInt = 0 := rfl
theorem isC.ix {i : Int32} (h : isC i) : IX i i.toNatClampNeg 48 := IX.of h.1 (by have := Int32.le_iff_toInt_le.mp h.2; have h3 : (47 : Int32).toInt = 47 := rfl; omega)
theorem hpI_st {h : AHp} {a k : Nat} {v : Int32} {b j : Nat} : hpI (stI h a k v) b j = if b = a ∧ j = k then v else hpI h b j := rfl
theorem hpI_stJ {h : AHp} {a k : Nat} {v : Int64} : hpI (stJ h a k v) = hpI h := rfl
theorem hpJ_stJ {h : AHp} {a k : Nat} {v : Int64} {b j : Nat} : hpJ (stJ h a k v) b j = if b = a ∧ j = k then v else hpJ h b j := rfl
theorem hpJ_st {h : AHp} {a k : Nat} {v : Int32} : hpJ (stI h a k v) = hpJ h := rfl
section VQ
variable {X : Cx} {G : Glb} {own : String} {cc : ByteArray} {nL k n pc pc' : Nat} {rt : Option FieldType} {Q : State → Prop} {ls : List (Option Value)} {st : List Value} {h : AHp} {d kc ks : Nat}
theorem v_ialdJ (hX : OKx X G own cc nL rt) {a L j : Nat} {i : Int32} (hk : Kd h a 100) (hl : hpL h a = L) (hi : IX i j L) (hd : Dq cc pc .iaload 1 pc') (kk : V X G nL k n Q pc' ls (.int (hpI h a j) :: st) h) : V X G nL k n Q pc ls (.int i :: .ref a :: st) h := by
  refine v_iald hX hk hl hi.vp hd ?_
  rw [hi.1]; exact kk
theorem v_zaldJ (hX : OKx X G own cc nL rt) {a L j : Nat} {i : Int32} (hk : Kd h a 101) (hl : hpL h a = L) (hi : IX i j L) (hd : Dq cc pc .baload 1 pc') (kk : V X G nL k n Q pc' ls (.int (hpI h a j) :: st) h) : V X G nL k n Q pc ls (.int i :: .ref a :: st) h := by
  refine v_zald hX hk hl hi.vp hd ?_
  rw [hi.1]; exact kk
theorem v_iastJ (hX : OKx X G own cc nL rt) {a L j : Nat} {i x : Int32} (hk : Kd h a 100) (hl : hpL h a = L) (hi : IX i j L) (hd : Dq cc pc .iastore 1 pc') (kk : V X G nL k n Q pc' ls st (stI h a j x)) : V X G nL k n Q pc ls (.int x :: .int i :: .ref a :: st) h := by
  refine v_iast hX hk hl hi.vp hd ?_
  rw [hi.1]; exact kk
theorem v_zastJ (hX : OKx X G own cc nL rt) {a L j : Nat} {i x : Int32} (hx : narrow .boolean (.int x) = .int x) (hk : Kd h a 101) (hl : hpL h a = L) (hi : IX i j L) (hd : Dq cc pc .bastore 1 pc') (kk : V X G nL k n Q pc' ls st (stI h a j x)) : V X G nL k n Q pc ls (.int x :: .int i :: .ref a :: st) h := by
  refine v_zast hX hx hk hl hi.vp hd ?_
  rw [hi.1]; exact kk
theorem v_if_eqB (hX : OKx X G own cc nL rt) {p : Prop} [Decidable p] {off : Int} (tgt : Nat) (hd : Dq cc pc (.ifCond .eq off) 3 pc') (ht : (pc : Int) + off = (tgt : Int)) (kt : ¬ p → V X G nL k n Q tgt ls st h) (kf : p → V X G nL k n Q pc' ls st h) : V X G nL k n Q pc ls (.int (bz p) :: st) h :=
  v_if_eq hX tgt hd ht (fun q => kt (bz_0.mp q)) (fun q => kf (Classical.byContradiction fun z => q (bz_0.mpr z)))
theorem v_if_neB (hX : OKx X G own cc nL rt) {p : Prop} [Decidable p] {off : Int} (tgt : Nat) (hd : Dq cc pc (.ifCond .ne off) 3 pc') (ht : (pc : Int) + off = (tgt : Int)) (kt : p → V X G nL k n Q tgt ls st h) (kf : ¬ p → V X G nL k n Q pc' ls st h) : V X G nL k n Q pc ls (.int (bz p) :: st) h :=
  v_if_ne hX tgt hd ht (fun q => kt (Classical.byContradiction fun z => q (bz_0.mpr z))) (fun q => kf (bz_0.mp q))
theorem v_case {x : Int32} (c : Int32) (k1 : x = c → V X G nL k n Q pc ls (.int x :: st) h) (k2 : ¬ x = c → V X G nL k n Q pc ls (.int x :: st) h) : V X G nL k n Q pc ls (.int x :: st) h := by
  by_cases e : x = c
  · exact k1 e
  · exact k2 e
theorem v_aload_nN (hX : OKx X G own cc nL rt) {i : Fin 4} (hl : ls[i.val]? = some (some .null)) (hd : Dq cc pc (.aload_n i) 1 pc') (kk : V X G nL k n Q pc' ls (.null :: st) h) : V X G nL k n Q pc ls (st) h := by
  obtain ⟨hd, rfl⟩ := hd
  intro H locs la hW hS hL
  exact lv_aload_nN hX.1 hX.2.1 hd rfl (hL.at hl) (kk H locs la hW hS hL)
theorem v_aloadN (hX : OKx X G own cc nL rt) {i : Nat} (hl : ls[i]? = some (some .null)) (hd : Dq cc pc (.aload i) 2 pc') (kk : V X G nL k n Q pc' ls (.null :: st) h) : V X G nL k n Q pc ls (st) h := by
  obtain ⟨hd, rfl⟩ := hd
  intro H locs la hW hS hL
  exact lv_aloadN hX.1 hX.2.1 hd (hL.at hl) (kk H locs la hW hS hL)
theorem v_astore_nN (hX : OKx X G own cc nL rt) {i : Fin 4} (hn : i.val < nL) (hq : noD ls = true) {ls' : List (Option Value)} (hl' : lst ls i.val .null = ls') (hd : Dq cc pc (.astore_n i) 1 pc') (kk : V X G nL k n Q pc' ls' st h) : V X G nL k n Q pc ls (.null :: st) h := by
  obtain ⟨hd, rfl⟩ := hd
  subst hl'
  intro H locs la hW hS hL
  exact lv_astore_nN hX.1 hX.2.1 hd rfl hL hn rfl (fun la' hL' => kk H locs la' hW hS (LH.st hL' (noD.no hq)))
theorem v_astoreN (hX : OKx X G own cc nL rt) {i : Nat} (hn : i < nL) (hq : noD ls = true) {ls' : List (Option Value)} (hl' : lst ls i .null = ls') (hd : Dq cc pc (.astore i) 2 pc') (kk : V X G nL k n Q pc' ls' st h) : V X G nL k n Q pc ls (.null :: st) h := by
  obtain ⟨hd, rfl⟩ := hd
  subst hl'
  intro H locs la hW hS hL
  exact lv_astoreN hX.1 hX.2.1 hd hL hn rfl (fun la' hL' => kk H locs la' hW hS (LH.st hL' (noD.no hq)))
theorem hNc (hX : OKx X G own cc nL rt) {C nm : String} (i : Nat) (h : ncL[i]? = some (C, nm)) : va_Nc C nm (xs X) := hX.2.2.2.2.2.2.1.2.2.2.2.1 (C, nm) (List.mem_of_getElem? h)
end VQ
theorem ne_i {x c : Int32} (z : Int) (hz : c.toInt = z) (h : ¬ x = c) : ¬ x.toInt = z := fun e => h (Int32.toInt_inj.mp (e.trans hz.symm))
theorem lk_out {x : Int32} {dflt : Int} : ∀ (l : List (Int × Int)), (∀ q ∈ l, ¬ x.toInt = q.1) → Op.lookupswitch.offset l dflt x.toInt = dflt := by
  intro l
  induction l with
  | nil => intro _; rfl
  | cons q l ih =>
    intro h
    obtain ⟨a, o⟩ := q
    rw [Op.lookupswitch.offset_cons, if_neg (fun e => h _ List.mem_cons_self e.symm)]
    exact ih (fun q hq => h q (List.mem_cons_of_mem _ hq))
theorem sI (n : Int32) : n.toInt = n.toInt := rfl
theorem leI {a b : Int32} : a ≤ b ↔ a.toInt ≤ b.toInt := Int32.le_iff_toInt_le
theorem ltI {a b : Int32} : a < b ↔ a.toInt < b.toInt := Int32.lt_iff_toInt_lt
theorem eqI {a b : Int32} : a = b ↔ a.toInt = b.toInt := Int32.toInt_inj.symm
