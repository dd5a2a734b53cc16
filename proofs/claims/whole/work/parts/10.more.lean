section VM
variable {X : Cx} {G : Glb} {own : String} {cc : ByteArray} {nL k n pc pc' : Nat} {rt : Option FieldType} {Q : State → Prop} {ls : List (Option Value)} {st : List Value} {h : AHp} {d kc ks : Nat}
theorem Wd.ar {h : AHp} {H : Heap} (hW : Wd G h H) {a c : Nat} (hk : Kd h a c) (hc : c = 102 ∨ c = 103) : va_at (gD G) vwCl (gAd G a, .inl (gA G c, (hpL h a, .inr (.inr (.inr (.inr (fun i => (hpR h a i).map (gAd G)))))))) H := by
  have h1 := hW.at hk
  rwa [celE_ref hk.1 hc] at h1
theorem v_aald (hX : OKx X G own cc nL rt) {a c L : Nat} {i : Int32} {r : Option Nat} (hc : c = 102 ∨ c = 103) (hk : Kd h a c) (hl : hpL h a = L) (hi : vp_in i L) (hr : hpR h a i.toNatClampNeg = r) (hd : Dq cc pc .aaload 1 pc') (kk : V X G nL k n Q pc' ls (va_rf r :: st) h) : V X G nL k n Q pc ls (.int i :: .ref a :: st) h := by
  obtain ⟨hd, rfl⟩ := hd
  subst hl
  subst hr
  intro H locs la hW hS hL
  have e : cv G (va_rf (hpR h a i.toNatClampNeg)) = va_rf ((hpR h a i.toNatClampNeg).map (gAd G)) := by cases hpR h a i.toNatClampNeg <;> rfl
  have kk := kk H locs la hW hS hL
  rw [List.map_cons, e] at kk
  rcases hc with rfl | rfl
  · exact va_aldq (D := gD G) (cl := vwCl) hX.1 hX.2.1 hX.2.2.2.2.2.2.1.1 (hW.ar hk (Or.inl rfl)).here 0 2 rfl rfl hi hd kk
  · exact va_aldq (D := gD G) (cl := vwCl) hX.1 hX.2.1 hX.2.2.2.2.2.2.1.1 (hW.ar hk (Or.inr rfl)).here 0 3 rfl rfl hi hd kk
/-- a store of an object of class ci into a row of E -/
theorem v_aast (hX : OKx X G own cc nL rt) {a v c ci L : Nat} {i : Int32} {C E : String} {T : u_T} {N : Nat} (hc : (c = 102 ∧ E = RX1) ∨ (c = 103 ∧ E = RX6)) (hci : vwCl[ci]? = some (C, T, N)) (h100 : ci < 100) (hca : C = E ∨ Cond.castable C E ∈ lw_tbl) (hk : Kd h a c) (hv : Kd h v ci) (hl : hpL h a = L) (hi : vp_in i L) (hd : Dq cc pc .aastore 1 pc') (kk : V X G nL k n Q pc' ls st (stR h a i.toNatClampNeg (some v))) : V X G nL k n Q pc ls (.ref v :: .int i :: .ref a :: st) h := by
  obtain ⟨hd, rfl⟩ := hd
  subst hl
  intro H locs la hW hS hL
  have hc2 : c = 102 ∨ c = 103 := by omega
  have ead : gAd G a = gB G + a := gAd_lt (Nat.lt_trans hk.2 hW.2.1)
  have hat : H[gAd G a]? = some (vp_cell (gA G c) (hpL h a, .inr (.inr (.inr (.inr (fun i => (hpR h a i).map (gAd G))))))) := hW.ar hk hc2
  have hav := hW.at hv
  rw [celE_obj hv.1 h100] at hav
  obtain ⟨r', hr', cellV, g1, g2, g3, -⟩ := hav
  have hK := hX.2.2.2.2.2.2.1.1
  have hcls := (hK.1 ci _ hci).2
  have hra : va_RA (xs X) (gA G c) (.object E) := by
    rcases hc with ⟨rfl, rfl⟩ | ⟨rfl, rfl⟩
    · exact (hK.2 2 _ rfl).2
    · exact (hK.2 3 _ rfl).2
  obtain ⟨kA, comp, k1, k2, k3, -⟩ := hra
  obtain ⟨kE, hkE, -⟩ := Vm.findClass_spec k3
  obtain ⟨kC, hkC, -⟩ := hcls.2
  have hass : (xs X).vm.assignable (G.2.1 ci) comp = true := by
    rcases hca with rfl | hca
    · have : comp = G.2.1 ci := Option.some.inj (k3.symm.trans hcls.1)
      rw [this]
      exact va_assign hcls
    · obtain ⟨c0, t1, f1, f2, f3⟩ := Cond.castable_spec (va_Nw.use (A := xa X) rfl (hX.2.2.2.2.2.2.1.2.1 _ hca rfl))
      have e1 : G.2.1 ci = c0 := Option.some.inj (hcls.1.symm.trans f1)
      have e2 : comp = t1 := Option.some.inj (k3.symm.trans f2)
      rw [e1, e2]; exact f3
  have hlt : i.toNatClampNeg < hpL h a := Nat.not_le.mp fun q => hi (Or.inr q)
  have h0 : ¬ i < 0 := fun q => hi (Or.inl q)
  refine W.aast hX.1 hX.2.1 hat (fun q h => by cases h) (fun h => by cases h) k1 k2 rfl hkE ⟨h0, by show _ < (arrV _ _ _).slots.size; rw [arrV_size]; exact hlt⟩ g1 (fun q h => by rw [g3] at h; cases h) (by rw [g2]; exact hkC) (by rw [g2]; exact hass) rfl rfl hd fun H1 e z oq => ?_
  rw [ead] at e oq ⊢
  refine kk H1 _ la (hW.put hk.2 rfl z oq ?_ (fun b hb => cel_stR hb)) (hS.put z oq (Nat.le_add_right _ _)) hL
  rw [celE_ref (show hpK (stR h a i.toNatClampNeg (some v)) a = c from hk.1) hc2]
  show H1[gB G + a]? = some (vp_cell _ _)
  rw [e, vp_cell_q, vp_cell_q, arrV_store]
  congr 2
  funext q
  by_cases hq : q = i.toNatClampNeg
  · subst hq
    have e3 : hpR (stR h a i.toNatClampNeg (some v)) a i.toNatClampNeg = some v := up2_at
    simp only [updV, if_true, e3]
    rfl
  · have e3 : hpR (stR h a i.toNatClampNeg (some v)) a q = hpR h a q := up2_ne (fun z => hq z.2)
    simp only [updV, if_neg hq, e3]
theorem v_instY (hX : OKx X G own cc nL rt) {a ci ix : Nat} {C nm : String} {T : u_T} {N : Nat} (hk : Kd h a ci) (hci : vwCl[ci]? = some (C, T, N)) (h100 : ci < 100) (hl : Cond.classLink own ix nm ∈ TG) (hc : C = nm ∨ Cond.castable C nm ∈ lw_tbl) (hd : Dq cc pc (.instanceof ix) 3 pc') (kk : V X G nL k n Q pc' ls (.int 1 :: st) h) : V X G nL k n Q pc ls (.ref a :: st) h := by
  obtain ⟨hd, rfl⟩ := hd
  intro H locs la hW hS hL
  rcases hc with rfl | hc
  · exact va_instS hX.1 hX.2.1 hX.2.2.2.2.1 (hX.2.2.2.2.2.1 _ hl) (hX.2.2.2.2.2.2.1.1.1 ci _ hci).2 (recvC hX hW hk hci h100) hd (kk H locs la hW hS hL)
  · exact va_instY hX.1 hX.2.1 hX.2.2.2.2.1 (hX.2.2.2.2.2.1 _ hl) (hX.2.2.2.2.2.2.1.2.1 _ hc rfl) (recvC hX hW hk hci h100) hd (kk H locs la hW hS hL)
theorem v_instNo (hX : OKx X G own cc nL rt) {a ci ix : Nat} {C nm : String} {T : u_T} {N : Nat} (hk : Kd h a ci) (hci : vwCl[ci]? = some (C, T, N)) (h100 : ci < 100) (hl : Cond.classLink own ix nm ∈ TG) (hc : va_Nc C nm (xs X)) (hd : Dq cc pc (.instanceof ix) 3 pc') (kk : V X G nL k n Q pc' ls (.int 0 :: st) h) : V X G nL k n Q pc ls (.ref a :: st) h := by
  obtain ⟨hd, rfl⟩ := hd
  intro H locs la hW hS hL
  exact va_instNo hX.1 hX.2.1 hX.2.2.2.2.1 (hX.2.2.2.2.2.1 _ hl) hc (recvC hX hW hk hci h100) hd (kk H locs la hW hS hL)
/-- Object.<init> -/
def MO (own : String) (ix : Nat) : Prop := Cond.methodLink own ix Lib.objectInit ∈ TG ∧ Cond.instanceMethod Lib.objectInit ∈ TG ∧ Cond.code Lib.objectInit ⟨#[0xb1]⟩ 1 none ∈ TG
theorem v_objInit (hX : OKx X G own cc nL rt) (hR : xR X = rmC d kc ks) (hd1 : 1 ≤ d) {a ix : Nat} (hm : MO own ix) (hcat : (st.map fun v => v.category).sum ≤ 8) (hd : Dq cc pc (.invokespecial ix) 3 pc') (kk : V X G nL k n Q pc' ls st h) : V X G nL k n Q pc ls (.ref a :: st) h := by
  obtain ⟨hd, rfl⟩ := hd
  intro H locs la hW hS hL
  have hcat2 := catS (G := G) hcat
  refine W.objInit hX.1 hX.2.1 hX.2.2.2.2.1 (hX.2.2.2.2.2.1 _ hm.1) (hX.2.2.2.2.2.1 _ hm.2.1) (hX.2.2.2.2.2.1 _ hm.2.2) rfl (hL.1.trans hX.2.2.2.1.symm) rfl hd (by rw [hR]; exact hd1) ?_ (kk H locs la hW hS hL)
  rw [hR]
  show 2 * 0 + _ + 12 ≤ 40 * d
  omega
/-- Math.max, min, abs -/
def mJ (own : String) (ix : Nat) (y : MethodName) (b : ByteArray) (ml : Nat) : Prop := Cond.methodLink own ix y ∈ TG ∧ Cond.static y ∈ TG ∧ Cond.initialized "java/lang/Math" ∈ TG ∧ Cond.code y b ml (some .int) ∈ TG
theorem mth_room (hX : OKx X G own cc nL rt) (hR : xR X = rmC d kc ks) (hd1 : 1 ≤ d) (hcat : (st.map fun v => v.category).sum ≤ 8) : 1 ≤ (xR X).frames ∧ ((st.map (cv G)).map fun v => v.category).sum + 13 ≤ (xR X).locals := by
  have hcat2 := catS (G := G) hcat
  rw [hR]
  refine ⟨hd1, ?_⟩
  show _ + 13 ≤ 40 * d
  omega
theorem v_max (hX : OKx X G own cc nL rt) (hR : xR X = rmC d kc ks) (hd1 : 1 ≤ d) {x y : Int32} {ix : Nat} (hm : mJ own ix Lib.Math.max.name Lib.Math.max.code 2) (hcat : (st.map fun v => v.category).sum ≤ 8) (hroom : k ≤ kc ∧ n ≤ ks) (hd : Dq cc pc (.invokestatic ix) 3 pc') (kk : V X G nL k n Q pc' ls (.int (if x < y then y else x) :: st) h) : V X G nL k n Q pc ls (.int y :: .int x :: st) h := by
  obtain ⟨hd, rfl⟩ := hd
  intro H locs la hW hS hL
  obtain ⟨r1, r2⟩ := mth_room (G := G) hX hR hd1 hcat
  exact va_mmax hX.1 hX.2.1 (hX.2.2.2.1.trans hL.1.symm) hX.2.2.2.2.1 (hX.2.2.2.2.2.1 _ hm.1) (hX.2.2.2.2.2.1 _ hm.2.1) (hX.2.2.2.2.2.1 _ hm.2.2.1) (hX.2.2.2.2.2.1 _ hm.2.2.2) r1 r2 (by rw [hR]; exact hroom.1) (by rw [hR]; exact hroom.2) hd (kk H locs la hW hS hL)
theorem v_min (hX : OKx X G own cc nL rt) (hR : xR X = rmC d kc ks) (hd1 : 1 ≤ d) {x y : Int32} {ix : Nat} (hm : mJ own ix Lib.Math.min.name Lib.Math.min.code 2) (hcat : (st.map fun v => v.category).sum ≤ 8) (hroom : k ≤ kc ∧ n ≤ ks) (hd : Dq cc pc (.invokestatic ix) 3 pc') (kk : V X G nL k n Q pc' ls (.int (if y < x then y else x) :: st) h) : V X G nL k n Q pc ls (.int y :: .int x :: st) h := by
  obtain ⟨hd, rfl⟩ := hd
  intro H locs la hW hS hL
  obtain ⟨r1, r2⟩ := mth_room (G := G) hX hR hd1 hcat
  exact va_mmin hX.1 hX.2.1 (hX.2.2.2.1.trans hL.1.symm) hX.2.2.2.2.1 (hX.2.2.2.2.2.1 _ hm.1) (hX.2.2.2.2.2.1 _ hm.2.1) (hX.2.2.2.2.2.1 _ hm.2.2.1) (hX.2.2.2.2.2.1 _ hm.2.2.2) r1 r2 (by rw [hR]; exact hroom.1) (by rw [hR]; exact hroom.2) hd (kk H locs la hW hS hL)
theorem v_abs (hX : OKx X G own cc nL rt) (hR : xR X = rmC d kc ks) (hd1 : 1 ≤ d) {x : Int32} {ix : Nat} (hm : mJ own ix Lib.Math.abs.name Lib.Math.abs.code 1) (hcat : (st.map fun v => v.category).sum ≤ 8) (hroom : k ≤ kc ∧ n ≤ ks) (hd : Dq cc pc (.invokestatic ix) 3 pc') (kk : V X G nL k n Q pc' ls (.int (if 0 ≤ x then x else 0 - x) :: st) h) : V X G nL k n Q pc ls (.int x :: st) h := by
  obtain ⟨hd, rfl⟩ := hd
  intro H locs la hW hS hL
  obtain ⟨r1, r2⟩ := mth_room (G := G) hX hR hd1 hcat
  exact va_mabs hX.1 hX.2.1 (hX.2.2.2.1.trans hL.1.symm) hX.2.2.2.2.1 (hX.2.2.2.2.2.1 _ hm.1) (hX.2.2.2.2.2.1 _ hm.2.1) (hX.2.2.2.2.2.1 _ hm.2.2.1) (hX.2.2.2.2.2.1 _ hm.2.2.2) r1 r2 (by rw [hR]; exact hroom.1) (by rw [hR]; exact hroom.2) hd (kk H locs la hW hS hL)
/-- System.arraycopy over rows of ints -/
def mA (own : String) (ix : Nat) : Prop := Cond.methodLink own ix arraycopyName ∈ TG ∧ Cond.native arraycopyName ∈ TG ∧ Cond.static arraycopyName ∈ TG ∧ Cond.initialized "java/lang/System" ∈ TG
def stC (h : AHp) (a b sp dp m : Nat) : AHp := ((fun c j => if c = b ∧ dp ≤ j ∧ j < dp + m then h.1 a (sp + (j - dp)) else h.1 c j), h.2)
theorem cel_stC {a b sp dp m c : Nat} (hb : c ≠ b) : celE G (stC h a b sp dp m) c = celE G h c := by
  have e1 : hpI (stC h a b sp dp m) c = hpI h c := by funext j; exact if_neg (fun z => hb z.1)
  unfold celE
  show (if hpK h c < 100 then (Sum.inr (hpK h c, fls G (stC h a b sp dp m) c 0 (lyt (hpK h c))) : va_E) else if hpK h c < 102 then .inl (gA G (hpK h c), (hpL h c, .inl (hpI (stC h a b sp dp m) c))) else .inl (gA G (hpK h c), (hpL h c, .inr (.inr (.inr (.inr (fun i => (hpR h c i).map (gAd G)))))))) = _
  rw [e1, fls_ext (h := stC h a b sp dp m) (h' := h) (lyt (hpK h c)) 0 (fun j t _ => by unfold fdv; rw [e1]; rfl)]
theorem v_acopy (hX : OKx X G own cc nL rt) (hR : xR X = rmC d kc ks) (hd1 : 1 ≤ d) {a b ix La Lb : Nat} {sp dp m : Int32} (hm : mA own ix) (hka : Kd h a 100) (hkb : Kd h b 100) (hla : hpL h a = La) (hlb : hpL h b = Lb) (h1 : ¬ sp < 0) (h2 : ¬ dp < 0) (h3 : ¬ m < 0) (h4 : sp.toNatClampNeg + m.toNatClampNeg ≤ La) (h5 : dp.toNatClampNeg + m.toNatClampNeg ≤ Lb) (hcat : (st.map fun v => v.category).sum ≤ 8) (hd : Dq cc pc (.invokestatic ix) 3 pc') (kk : V X G nL k n Q pc' ls st (stC h a b sp.toNatClampNeg dp.toNatClampNeg m.toNatClampNeg)) : V X G nL k n Q pc ls (.int m :: .int dp :: .ref b :: .int sp :: .ref a :: st) h := by
  obtain ⟨hd, rfl⟩ := hd
  subst hla; subst hlb
  intro H locs la hW hS hL
  have hcat2 := catS (G := G) hcat
  have eb : gAd G b = gB G + b := gAd_lt (Nat.lt_trans hkb.2 hW.2.1)
  have nn : ∀ z : Int32, ¬ z < 0 → z.toInt = (z.toNatClampNeg : Int) := by
    intro z hz
    have hz0 : (0 : Int) ≤ z.toInt := by
      have := Int32.not_lt.mp hz
      simpa using Int32.le_iff_toInt_le.mp this
    show z.toInt = ((z.toInt.toNat : Nat) : Int)
    omega
  intro T hT Z
  have hts := hX.2.2.2.2.2.1
  have hc0 : H[gAd G a]? = some (vp_cell (gA G 100) (hpL h a, .inl (hpI h a))) := hW.ai hka (Or.inl rfl)
  have hc1 : H[gAd G b]? = some (vp_cell (gA G 100) (hpL h b, .inl (hpI h b))) := hW.ai hkb (Or.inl rfl)
  obtain ⟨-, k0, hk0, cm0, hkk0⟩ := (hX.2.2.2.2.2.2.1.1.2 0 _ rfl).1 (hpL h a) (fun j => .int (hpI h a j))
  obtain ⟨-, k1, hk1, cm1, hkk1⟩ := (hX.2.2.2.2.2.2.1.1.2 0 _ rfl).1 (hpL h b) (fun j => .int (hpI h b j))
  obtain ⟨vm', Z', step⟩ := Z.arraycopy hX.1 hX.2.2.2.2.1 (hts _ hm.1) (hts _ hm.2.1) (hts _ hm.2.2.1) (hts _ hm.2.2.2) (src := gAd G a) (dst := gAd G b) (cs := vp_cell (gA G 100) (hpL h a, .inl (hpI h a))) (cd := vp_cell (gA G 100) (hpL h b, .inl (hpI h b))) (srcPos := sp) (destPos := dp) (n := m) (by rw [hT]; exact hc0) (by rw [hT]; exact hc1)
    (fun _ h => by cases h) (fun _ h => by cases h) (fun h => by cases h) (fun h => by cases h) hk0 hk1 hkk0 hkk1 rfl h1 h2 h3
    (by rw [nn sp h1, nn m h3]; show ¬ _ > ((arrV (gA G 100) (hpL h a) (fun j => .int (hpI h a j))).slots.size : Int); rw [arrV_size]; omega)
    (by rw [nn dp h2, nn m h3]; show ¬ _ > ((arrV (gA G 100) (hpL h b) (fun j => .int (hpI h b j))).slots.size : Int); rw [arrV_size]; omega)
    (fun vm₁ _ i hi => by
      have e : (vp_cell (gA G 100) (hpL h a, .inl (hpI h a))).slots.getD (sp.toNatClampNeg + i) .null = .int (hpI h a (sp.toNatClampNeg + i)) := by
        show (arrV (gA G 100) (hpL h a) (fun j => .int (hpI h a j))).slots.getD _ _ = _
        rw [Array.getD_eq_getD_getElem?, arrV_read _ _ (by omega)]
        rfl
      refine ⟨?_, ?_⟩
      · rw [e]; rfl
      · rw [e]; exact trivial)
    (g := F0 (xm X) pc la (.int m :: .int dp :: .ref (gAd G b) :: .int sp :: .ref (gAd G a) :: st.map (cv G))) rfl (hL.1.trans hX.2.2.2.1.symm) (rest := st.map (cv G)) rfl (by rw [hX.2.1]; exact hd) (by rw [hR]; exact hd1) (by have h20 : nativeFrameWords "java/lang/System" "arraycopy" 5 ≤ 20 := (by decide); rw [hR]; show 2 * 0 + _ + (nativeFrameWords "java/lang/System" "arraycopy" 5 + 11) ≤ 40 * d; omega)
  have e1 : copied (vp_cell (gA G 100) (hpL h a, .inl (hpI h a))) (vp_cell (gA G 100) (hpL h b, .inl (hpI h b))) sp dp m = vp_cell (gA G 100) (hpL h b, .inl (va_cpy (hpI h a) (hpI h b) sp.toNatClampNeg dp.toNatClampNeg m.toNatClampNeg)) := va_copied (fun z => .int z) (gA G 100) (gA G 100) (hpI h a) (hpI h b) h4
  rw [e1] at Z' step
  have hl : gAd G b < H.size := (Array.getElem?_eq_some_iff.mp hc1).1
  have hheap : ((T.setVm vm').setCell (gAd G b) (vp_cell (gA G 100) (hpL h b, .inl (va_cpy (hpI h a) (hpI h b) sp.toNatClampNeg dp.toNatClampNeg m.toNatClampNeg)))).heap = H.setIfInBounds (gAd G b) (vp_cell (gA G 100) (hpL h b, .inl (va_cpy (hpI h a) (hpI h b) sp.toNatClampNeg dp.toNatClampNeg m.toNatClampNeg))) := by rw [← hT]; rfl
  generalize hH1 : H.setIfInBounds (gAd G b) (vp_cell (gA G 100) (hpL h b, .inl (va_cpy (hpI h a) (hpI h b) sp.toNatClampNeg dp.toNatClampNeg m.toNatClampNeg))) = H1 at hheap
  have oq : ∀ q : Nat, q ≠ gAd G b → H1[q]? = H[q]? := fun q hq => by rw [← hH1]; simp [Array.getElem?_setIfInBounds, Ne.symm hq]
  have hz : H1.size = H.size := by rw [← hH1]; simp
  have hat : H1[gAd G b]? = some (vp_cell (gA G 100) (hpL h b, .inl (va_cpy (hpI h a) (hpI h b) sp.toNatClampNeg dp.toNatClampNeg m.toNatClampNeg))) := by rw [← hH1]; simp [Array.getElem?_setIfInBounds, hl]
  have hWn : Wd G (stC h a b sp.toNatClampNeg dp.toNatClampNeg m.toNatClampNeg) H1 := by
    refine hW.put (a := b) hkb.2 rfl hz (by rw [← eb]; exact oq) ?_ (fun c hc => cel_stC hc)
    rw [celE_int (show hpK (stC h a b sp.toNatClampNeg dp.toNatClampNeg m.toNatClampNeg) b = 100 from hkb.1) (Or.inl rfl), ← eb]
    show H1[gAd G b]? = some (vp_cell _ _)
    rw [hat]
    congr 2
    show (hpL h b, Sum.inl _) = (hpL h b, Sum.inl _)
    congr 2
    funext j
    show va_cpy (hpI h a) (hpI h b) sp.toNatClampNeg dp.toNatClampNeg m.toNatClampNeg j = if b = b ∧ dp.toNatClampNeg ≤ j ∧ j < dp.toNatClampNeg + m.toNatClampNeg then h.1 a (sp.toNatClampNeg + (j - dp.toNatClampNeg)) else h.1 b j
    unfold va_cpy
    simp only [true_and]
    rfl
  obtain ⟨t, a1, b1⟩ := kk H1 _ la hWn ⟨by rw [hz]; exact hS.1, fun q g1 g2 => by
      rw [oq q (fun e => g2 (by rw [e, eb]; exact Nat.le_add_right _ _))]
      exact hS.2.1 q g1 g2, fun q hq => by
      rcases List.mem_append.mp hq with h | h
      · exact hS.2.2 q h
      · obtain ⟨z, -, hz⟩ := List.mem_map.mp h
        rw [← hz]
        show gB G ≤ gAd G b
        rw [eb]; exact Nat.le_add_right _ _⟩ hL _ hheap Z'
  exact ⟨t, step t a1, b1⟩
end VM
