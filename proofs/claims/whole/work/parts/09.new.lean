theorem celN_old {G : Glb} {h : AHp} {c m b : Nat} (hb : b < hpN h) : celE G (stN h c m) b = celE G h b := by
  have hb' : ¬ b = hpN h := by omega
  have e1 : hpI (stN h c m) b = hpI h b := by funext j; exact if_neg hb'
  have e2 : hpR (stN h c m) b = hpR h b := by funext j; exact if_neg hb'
  have e3 : hpJ (stN h c m) b = hpJ h b := by funext j; exact if_neg hb'
  have e4 : hpK (stN h c m) b = hpK h b := if_neg hb'
  have e5 : hpL (stN h c m) b = hpL h b := if_neg hb'
  unfold celE
  rw [e1, e2, e4, e5, fls_ext (h := stN h c m) (h' := h) (lyt (hpK h b)) 0 (fun j t _ => by unfold fdv; rw [e1, e2, e3])]
theorem Wd.new {G : Glb} {h : AHp} {H H1 : Heap} {c m : Nat} (hW : Wd G h H) (hN : hpN h + 1 < 1000000) (hz : H1.size = H.size + 1) (oq : ∀ q : Nat, q < H.size → H1[q]? = H[q]?) (h1 : va_at (gD G) vwCl (H.size, celE G (stN h c m) (hpN h)) H1) : Wd G (stN h c m) H1 := by
  have hs := hW.1
  refine ⟨by rw [hz, hs]; rfl, hN, fun q hq => ?_, fun b hb => ?_⟩
  · rw [oq q (by omega)]; exact hW.2.2.1 q hq
  · have hb2 : b < hpN h + 1 := hb
    by_cases hba : b = hpN h
    · subst hba; rw [← hs]; exact h1
    · rw [celN_old (by omega)]
      exact (hW.2.2.2 b (by omega)).kept (oq (gB G + b) (by omega))
section VNW
variable {X : Cx} {G : Glb} {own : String} {cc : ByteArray} {nL k n pc pc' : Nat} {rt : Option FieldType} {Q : State → Prop} {ls : List (Option Value)} {st : List Value} {h : AHp} {d kc ks : Nat}
theorem va_S.grow {A : Nat → Prop} {H0 H H1 : Heap} {locs : List Loc} (hS : va_S A H0 H locs) (z1 : H1.size = H.size + 1) (o1 : ∀ q : Nat, q < H.size → H1[q]? = H[q]?) : va_S A H0 H1 locs := ⟨Nat.le_trans hS.1 (by omega), fun x h1 h2 => (o1 x (Nat.lt_of_lt_of_le h1 hS.1)).trans (hS.2.1 x h1 h2), hS.2.2⟩
theorem v_new (hX : OKx X G own cc nL rt) (hR : xR X = rmC d kc ks) {ix ci N : Nat} {C : String} {T : u_T} {ty : Nat → FieldType} (hc : ClOK ci C T N ty) (hl : Cond.classLink own ix C ∈ TG) (hi : Cond.instantiable C N ∈ TG) (hini : Cond.initialized C ∈ TG) (hN : hpN h + 1 < 1000000) (hroom : k + 1 ≤ kc ∧ n + N ≤ ks) (hd : Dq cc pc (.new ix) 3 pc') (kk : V X G nL (k + 1) (n + N) Q pc' ls (.ref (hpN h) :: st) (stN h ci 0)) : V X G nL k n Q pc ls st h := by
  obtain ⟨hd, rfl⟩ := hd
  intro H locs la hW hS hL
  have hts := hX.2.2.2.2.2.1
  have hKn := hX.2.2.2.2.2.2.1.1.1 ci _ hc.1
  refine W.newcK hX.1 hX.2.1 hX.2.2.2.2.1 (hts _ hl) (hts _ hi) (hts _ hini) rfl hd (by rw [hR]; exact hroom.1) (by rw [hR]; exact hroom.2) hKn.2.1 rfl fun H1 kC hkC e1 z1 o1 => ?_
  have ead : gAd G (hpN h) = H.size := by rw [gAd_lt hW.2.1]; exact hW.1.symm
  have hWn : Wd G (stN h ci 0) H1 := by
    refine hW.new hN z1 o1 ?_
    rw [celE_obj (show hpK (stN h ci 0) (hpN h) = ci from if_pos rfl) hc.2.2.2.2.2.1]
    refine ⟨_, hc.1, (u_born ty hts hc.2.1 hKn hkC e1 hc.2.2.1).to (fun j hj => ?_)⟩
    have hj2 : j < (lyt ci).length := by rw [hc.2.2.2.2.1]; exact hj
    have ht : (lyt ci)[j]? = some (lyt ci)[j] := List.getElem?_eq_getElem hj2
    have hty := FL.ty (own := own) (ix := ix) hc hj ht
    have e2 := fls_at (G := G) (h := stN h ci 0) (a := hpN h) (lyt ci) 0 j _ ht
    rw [Nat.zero_add] at e2
    show defaultValue (ty j) = (fls G (stN h ci 0) (hpN h) 0 (lyt ci)).getD j .null
    rw [List.getD, e2]
    show defaultValue (ty j) = fdv G (stN h ci 0) (hpN h) (lyt ci)[j] j
    rw [← hty]
    have f1 : hpI (stN h ci 0) (hpN h) j = 0 := if_pos rfl
    have f2 : hpR (stN h ci 0) (hpN h) j = none := if_pos rfl
    have f3 : hpJ (stN h ci 0) (hpN h) j = 0 := if_pos rfl
    unfold fdv
    rw [f1, f2, f3]
    have h9 : ∀ t, t = ty j → tyT t ≠ 9 := by
      intro t ht2 h9
      have hm : (lyt ci)[j] ∈ lyt ci := List.getElem_mem hj2
      rw [← hty, ← ht2, h9] at hm
      have hcl : ci < 13 := by
        have := (List.getElem?_eq_some_iff.mp hc.1).1
        simpa [vwCl] using this
      have hno : ∀ c, c < 13 → ¬ 9 ∈ lyt c := by decide
      exact hno ci hcl hm
    generalize hq : ty j = t at *
    cases t <;> first | rfl | exact absurd rfl (h9 _ rfl)
  have := kk H1 locs la hWn (hS.grow z1 o1) hL
  rw [List.map_cons, show cv G (.ref (hpN h)) = .ref H.size from congrArg Value.ref ead] at this
  exact this
theorem v_newa (hX : OKx X G own cc nL rt) (hR : xR X = rmC d kc ks) {c L : Nat} {i : Int32} {at_ : ArrayType} (hc : (c = 100 ∧ at_ = .int) ∨ (c = 101 ∧ at_ = .boolean)) (hw : Cond.arrayClass (newarray.typeOf at_) ∈ TG) (hi : ¬ i < 0) (hL' : i.toNatClampNeg = L) (h9 : L ≤ 1000) (hN : hpN h + 1 < 1000000) (hroom : k + 1 ≤ kc ∧ n + L ≤ ks) (hd : Dq cc pc (.newarray at_) 2 pc') (kk : V X G nL (k + 1) (n + L) Q pc' ls (.ref (hpN h) :: st) (stN h c L)) : V X G nL k n Q pc ls (.int i :: st) h := by
  obtain ⟨hd, rfl⟩ := hd
  intro H locs la hW hS hL
  have hts := hX.2.2.2.2.2.1
  have hcb : componentBytes (newarray.typeOf at_) ≤ 8 := by rcases hc with ⟨-, rfl⟩ | ⟨-, rfl⟩ <;> decide
  refine va_newaK hX.1 hX.2.1 (atype := at_) (hts _ hw) rfl hd rfl hi hL' (Nat.le_trans (Nat.mul_le_mul h9 hcb) (Nat.le_of_ble_eq_true rfl)) (by rw [hR]; exact hroom.1) (by rw [hR]; exact hroom.2) rfl fun H1 cA e1 z1 o1 hAr hNm => ?_
  have ead : gAd G (hpN h) = H.size := by rw [gAd_lt hW.2.1]; exact hW.1.symm
  have hWn : Wd G (stN h c L) H1 := by
    refine hW.new hN z1 o1 ?_
    have hK0 := hX.2.2.2.2.2.2.1.1.2
    rcases hc with ⟨rfl, rfl⟩ | ⟨rfl, rfl⟩
    · rw [celE_int (show hpK (stN h 100 L) (hpN h) = 100 from if_pos rfl) (Or.inl rfl)]
      have hcA : cA = gA G 100 := Option.some.inj (hNm.symm.trans (hK0 0 _ rfl).2)
      show H1[H.size]? = some (vp_cell _ _)
      rw [e1, hcA, show hpL (stN h 100 L) (hpN h) = L from if_pos rfl, vp_cell_i]
      congr 2
      funext j
      show Value.int 0 = .int (hpI (stN h 100 L) (hpN h) j)
      rw [show hpI (stN h 100 L) (hpN h) j = 0 from if_pos rfl]
    · rw [celE_int (show hpK (stN h 101 L) (hpN h) = 101 from if_pos rfl) (Or.inr rfl)]
      have hcA : cA = gA G 101 := Option.some.inj (hNm.symm.trans (hK0 1 _ rfl).2)
      show H1[H.size]? = some (vp_cell _ _)
      rw [e1, hcA, show hpL (stN h 101 L) (hpN h) = L from if_pos rfl, vp_cell_i]
      congr 2
      funext j
      show Value.int 0 = .int (hpI (stN h 101 L) (hpN h) j)
      rw [show hpI (stN h 101 L) (hpN h) j = 0 from if_pos rfl]
  have := kk H1 locs la hWn (hS.grow z1 o1) hL
  rw [List.map_cons, show cv G (.ref (hpN h)) = .ref H.size from congrArg Value.ref ead] at this
  exact this
theorem v_anew (hX : OKx X G own cc nL rt) (hR : xR X = rmC d kc ks) {c L ix : Nat} {i : Int32} {C : String} (hc : (c = 102 ∧ C = RX1) ∨ (c = 103 ∧ C = RX6)) (hl : Cond.classLink own ix C ∈ TG) (hi : ¬ i < 0) (hL' : i.toNatClampNeg = L) (h9 : L ≤ 1000) (hN : hpN h + 1 < 1000000) (hroom : k + 1 ≤ kc ∧ n + L ≤ ks) (hd : Dq cc pc (.anewarray ix) 3 pc') (kk : V X G nL (k + 1) (n + L) Q pc' ls (.ref (hpN h) :: st) (stN h c L)) : V X G nL k n Q pc ls (.int i :: st) h := by
  obtain ⟨hd, rfl⟩ := hd
  subst hL'
  intro H locs la hW hS hL
  have hts := hX.2.2.2.2.2.1
  have hover : va_AO C (xs X) := by rcases hc with ⟨-, rfl⟩ | ⟨-, rfl⟩; exact hX.2.2.2.2.2.2.1.2.2.1; exact hX.2.2.2.2.2.2.1.2.2.2.1
  refine W.anew hX.1 hX.2.1 hX.2.2.2.2.1 (hts _ hl) (va_AO.use hover) rfl hd rfl hi (Nat.le_trans (Nat.mul_le_mul h9 (Nat.le_refl 4)) (Nat.le_of_ble_eq_true rfl)) (by rw [hR]; exact hroom.1) (by rw [hR]; exact hroom.2) fun cA kA comp f1 f2 f3 f4 => ?_
  generalize hH1 : H.push ({ cls := cA, slots := Array.replicate i.toNatClampNeg .null, vm := .none } : Cell) = H1
  have z1 : H1.size = H.size + 1 := by rw [← hH1, Array.size_push]
  have e1 : H1[H.size]? = some (arrV cA i.toNatClampNeg (fun _ => .null)) := by rw [← hH1, Array.getElem?_push_size, ← arrV_new]
  have o1 : ∀ q : Nat, q < H.size → H1[q]? = H[q]? := fun q hq => by rw [← hH1, Array.getElem?_push, if_neg (Nat.ne_of_lt hq)]
  have ead : gAd G (hpN h) = H.size := by rw [gAd_lt hW.2.1]; exact hW.1.symm
  have hWn : Wd G (stN h c i.toNatClampNeg) H1 := by
    refine hW.new hN z1 o1 ?_
    have hK0 := hX.2.2.2.2.2.2.1.1.2
    have hcc : c = 102 ∨ c = 103 := by omega
    have hcA : cA = gA G c := by
      rcases hc with ⟨rfl, rfl⟩ | ⟨rfl, rfl⟩
      · obtain ⟨_, _, -, -, -, g⟩ := (hK0 2 _ rfl).2
        exact Option.some.inj (f1.symm.trans g)
      · obtain ⟨_, _, -, -, -, g⟩ := (hK0 3 _ rfl).2
        exact Option.some.inj (f1.symm.trans g)
    rw [celE_ref (show hpK (stN h c i.toNatClampNeg) (hpN h) = c from if_pos rfl) hcc]
    show H1[H.size]? = some (vp_cell _ _)
    rw [e1, hcA, show hpL (stN h c i.toNatClampNeg) (hpN h) = i.toNatClampNeg from if_pos rfl, vp_cell_q]
    congr 2
    funext j
    rw [show hpR (stN h c i.toNatClampNeg) (hpN h) j = none from if_pos rfl]
    rfl
  have := kk H1 locs la hWn (hS.grow z1 o1) hL
  rw [List.map_cons, show cv G (.ref (hpN h)) = .ref H.size from congrArg Value.ref ead] at this
  exact this
end VNW
