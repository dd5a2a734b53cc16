def nstW (w : Cond) : Bool := match w with
  | .methodLinkNest .. => true
  | .castable .. => true
  | _ => false
/-- kinds that are not under another -/
def ncL : List (String × String) := [(RX1, RX2), (RX1, RX7), (RX1, RX4), (RX1, RX8), (RX1, RX3), (RX2, RX7), (RX2, RX4), (RX2, RX8), (RX2, RX3), (RX7, RX4), (RX7, RX8), (RX7, RX3), (RX4, RX2), (RX4, RX7), (RX4, RX8), (RX4, RX3), (RX8, RX7), (RX8, RX4), (RX8, RX3), (RX3, RX2), (RX3, RX7), (RX3, RX8)]
abbrev AsG (G : Glb) : Nat → Prop := fun q => gB G ≤ q
/-- owner, place in its pool, text, bytes -/
def sTab : List (String × Nat × String × List Int32) := [(RX10, 153, "y", [121]), (RX10, 159, "x", [120]), (RX10, 161, "depth", [100, 101, 112, 116, 104]), (RX10, 163, "trod", [116, 114, 111, 100]), (RX10, 165, "hour", [104, 111, 117, 114]), (RX10, 167, "sun", [115, 117, 110]), (RX10, 169, "deep", [100, 101, 101, 112]), (RX10, 171, "sea", [115, 101, 97]), (RX10, 173, "shine", [115, 104, 105, 110, 101]), (RX10, 175, "or", [111, 114]), (RX10, 177, "and", [97, 110, 100]), (RX10, 179, "not", [110, 111, 116]), (RX11, 63, "deep trod * 1 + y ; sea 4 < y and 17 < hour ; shine sun - depth ;", [100, 101, 101, 112, 32, 116, 114, 111, 100, 32, 42, 32, 49, 32, 43, 32, 121, 32, 59, 32, 115, 101, 97, 32, 52, 32, 60, 32, 121, 32, 97, 110, 100, 32, 49, 55, 32, 60, 32, 104, 111, 117, 114, 32, 59, 32, 115, 104, 105, 110, 101, 32, 115, 117, 110, 32, 45, 32, 100, 101, 112, 116, 104, 32, 59])]
def sLen : List Nat := [1, 1, 5, 4, 4, 3, 4, 3, 5, 2, 3, 3, 65]
def sByt : List (List Int32) := [[121], [120], [100, 101, 112, 116, 104], [116, 114, 111, 100], [104, 111, 117, 114], [115, 117, 110], [100, 101, 101, 112], [115, 101, 97], [115, 104, 105, 110, 101], [111, 114], [97, 110, 100], [110, 111, 116], [100, 101, 101, 112, 32, 116, 114, 111, 100, 32, 42, 32, 49, 32, 43, 32, 121, 32, 59, 32, 115, 101, 97, 32, 52, 32, 60, 32, 121, 32, 97, 110, 100, 32, 49, 55, 32, 60, 32, 104, 111, 117, 114, 32, 59, 32, 115, 104, 105, 110, 101, 32, 115, 117, 110, 32, 45, 32, 100, 101, 112, 116, 104, 32, 59]]
def StK (G : Glb) (U : State) : Prop := va_Z "java/lang/String" "COMPACT_STRINGS" "Z" (.int 1) (AsG G) U (gH G) ∧ (va_Z "jdk/internal/util/Preconditions" "SIOOBE_FORMATTER" "Ljava/util/function/BiFunction;" .null (AsG G) U (gH G) ∨ va_Z "jdk/internal/util/Preconditions" "SIOOBE_FORMATTER" "Ljava/util/function/BiFunction;" (.ref (gS G 1)) (AsG G) U (gH G)) ∧ vk_S 13 sLen sByt (fun i => gS G (2 + i)) (fun i => gS G (20 + i)) (AsG G) U (gH G) ∧ ∀ i o k t b, sTab[i]? = some (o, k, t, b) → vk_R o k t (gS G (2 + i)) U
theorem StK.warm {G : Glb} {s U : State} (hW : s.WarmedH U.vm) (h : StK G s) : StK G U := ⟨va_Z.moved hW.alike h.1, h.2.1.imp (va_Z.moved hW.alike) (va_Z.moved hW.alike), vk_S.moved hW.alike h.2.2.1, fun i o k t b e => vk_R.warm hW (h.2.2.2 i o k t b e)⟩
theorem StK.same {G : Glb} {s U : State} (hv : s.vm = U.vm) (h : StK G s) : StK G U := by
  have ha : s.vm.Alike U.vm := by rw [hv]; exact Vm.Alike.refl _
  exact ⟨va_Z.moved ha h.1, h.2.1.imp (va_Z.moved ha) (va_Z.moved ha), vk_S.moved ha h.2.2.1, fun i o k t b e => vk_R.same hv.symm (h.2.2.2 i o k t b e)⟩
/-- what of the tables a call must find: moved by every warming -/
def Kn (G : Glb) (U : State) : Prop := va_K (gD G) vwCl (tyA G) U ∧ (∀ w ∈ lw_tbl, nstW w = true → va_Nw w U) ∧ va_AO RX1 U ∧ va_AO RX6 U ∧ (∀ q ∈ ncL, va_Nc q.1 q.2 U) ∧ StK G U
theorem Kn.warm {G : Glb} {s U : State} (hW : s.WarmedH U.vm) (h : Kn G s) : Kn G U := by
  refine ⟨va_K.moved hW.alike h.1, fun w hw hn => ?_, va_AO.moved hW.alike h.2.2.1, va_AO.moved hW.alike h.2.2.2.1, fun q hq => va_Nc.moved hW.alike (h.2.2.2.2.1 q hq), StK.warm hW h.2.2.2.2.2⟩
  have h1 := h.2.1 w hw hn
  cases w <;> first | exact va_Nw.warmM hW h1 | exact va_Nw.warmC hW h1 | cases hn
theorem Kn.same {G : Glb} {s U : State} (hv : s.vm = U.vm) (h : Kn G s) : Kn G U := by
  have ha : s.vm.Alike U.vm := by rw [hv]; exact Vm.Alike.refl _
  refine ⟨va_K.moved ha h.1, fun w hw hn => ?_, va_AO.moved ha h.2.2.1, va_AO.moved ha h.2.2.2.1, fun q hq => va_Nc.moved ha (h.2.2.2.2.1 q hq), StK.same hv h.2.2.2.2.2⟩
  have h1 := h.2.1 w hw hn
  cases w <;> first | exact va_Nw.same rfl hv h1 | cases hn
abbrev Cx : Type := Program × Launch × Env × Room × State × MethodId × Array Value × List Frame × Method × Code
abbrev xp (X : Cx) : Program := X.1
abbrev xl (X : Cx) : Launch := X.2.1
abbrev xe (X : Cx) : Env := X.2.2.1
abbrev xR (X : Cx) : Room := X.2.2.2.1
abbrev xs (X : Cx) : State := X.2.2.2.2.1
abbrev xm (X : Cx) : MethodId := X.2.2.2.2.2.1
abbrev xa (X : Cx) : Array Value := X.2.2.2.2.2.2.1
abbrev xb (X : Cx) : List Frame := X.2.2.2.2.2.2.2.1
abbrev xM (X : Cx) : Method := X.2.2.2.2.2.2.2.2.1
abbrev xc (X : Cx) : Code := X.2.2.2.2.2.2.2.2.2
def OKx (X : Cx) (G : Glb) (own : String) (cc : ByteArray) (nL : Nat) (rt : Option FieldType) : Prop :=
  (xp X).tables.exec = Jvm.exec ∧ (xc X).code = cc ∧ (xM X).sig.returnType = rt ∧ (xc X).maxLocals = nL ∧ (xs X).vm.findClass own = some (xm X).cls ∧ (∀ w ∈ TG, w.before (xa X) (xs X) = true) ∧ Kn G (xs X) ∧ (xM X).locks = false ∧ gB G ≤ (xs X).heap.size
def asc (G : Glb) : Nat → List (Option Value) → List (Nat × Value)
  | _, [] => []
  | i, none :: t => asc G (i + 1) t
  | i, some v :: t => (i, cv G v) :: asc G (i + 1) t
def LH (G : Glb) (la : Array Slot) (nL : Nat) (ls : List (Option Value)) : Prop := lv_has la nL (asc G 0 ls)
theorem asc_mem {G : Glb} : ∀ (ls : List (Option Value)) (i j : Nat) (w : Value), (j, w) ∈ asc G i ls ↔ ∃ k v, j = i + k ∧ ls[k]? = some (some v) ∧ w = cv G v := by
  intro ls
  induction ls with
  | nil => intro i j w; simp [asc]
  | cons x t ih =>
    intro i j w
    cases x with
    | none =>
      rw [asc, ih]
      constructor
      · rintro ⟨k, v, e, h, hw⟩; exact ⟨k + 1, v, by omega, by simpa using h, hw⟩
      · rintro ⟨k, v, e, h, hw⟩
        cases k with
        | zero => simp at h
        | succ k => exact ⟨k, v, by omega, by simpa using h, hw⟩
    | some u =>
      rw [asc, List.mem_cons, ih]
      constructor
      · rintro (h | ⟨k, v, e, h, hw⟩)
        · cases h; exact ⟨0, u, by omega, by simp, rfl⟩
        · exact ⟨k + 1, v, by omega, by simpa using h, hw⟩
      · rintro ⟨k, v, e, h, hw⟩
        cases k with
        | zero =>
          left
          simp at h
          subst h; subst hw
          simp [e]
        | succ k => right; exact ⟨k, v, by omega, by simpa using h, hw⟩
theorem LH.at {G : Glb} {la : Array Slot} {nL : Nat} {ls : List (Option Value)} (h : LH G la nL ls) {i : Nat} {v : Value} (hi : ls[i]? = some (some v)) : la[i]? = some (.val (cv G v)) := h.2.2 (i, cv G v) ((asc_mem ls 0 i _).mpr ⟨i, v, by omega, hi, rfl⟩)
theorem LH.to {G : Glb} {la : Array Slot} {nL : Nat} {ls ls' : List (Option Value)} (h : LH G la nL ls) (hs : ∀ (i : Nat) (v : Value), ls'[i]? = some (some v) → ls[i]? = some (some v)) : LH G la nL ls' := by
  refine ⟨h.1, h.2.1, fun q hq => ?_⟩
  obtain ⟨i, w⟩ := q
  obtain ⟨k, v, e, hk, hw⟩ := (asc_mem ls' 0 i w).mp hq
  have : i = k := by omega
  subst this
  subst hw
  exact h.at (hs _ v hk)
def noD (ls : List (Option Value)) : Bool := ls.all (fun q => match q with | some (.double _) => false | _ => true)
theorem noD.no {ls : List (Option Value)} (h : noD ls = true) : ∀ d, ¬ some (Value.double d) ∈ ls := fun d hd => by have := List.all_eq_true.mp h _ hd; cases this
def isL (v : Option Value) : Bool := match v with
  | some (.long _) => true
  | _ => false
/-- locals with place i set -/
def lst (ls : List (Option Value)) (i : Nat) (v : Value) : List (Option Value) := match i with
  | 0 => ls.set 0 (some v)
  | j + 1 => if isL (ls.getD j none) then (ls.set j none).set (j + 1) (some v) else ls.set (j + 1) (some v)
theorem cv_cat {G : Glb} {v : Value} : (cv G v).category = v.category := by cases v <;> rfl
theorem set_at {α : Type} {l : List α} {i : Nat} {x y : α} (h : (l.set i x)[i]? = some y) : y = x := by
  rw [List.getElem?_set] at h
  simp only [if_true] at h
  split at h
  · exact (Option.some.inj h).symm
  · cases h
theorem lst_at {ls : List (Option Value)} {i : Nat} {v u : Value} (h : (lst ls i v)[i]? = some (some u)) : u = v := by
  cases i with
  | zero => exact Option.some.inj (set_at h)
  | succ j =>
    simp only [lst] at h
    split at h <;> exact Option.some.inj (set_at h)
theorem lst_ne {ls : List (Option Value)} {i j : Nat} {v u : Value} (hji : ¬ j = i) (h : (lst ls i v)[j]? = some (some u)) : ls[j]? = some (some u) ∧ (j + 1 = i → isL (some u) = false) := by
  cases i with
  | zero =>
    simp only [lst] at h
    rw [List.getElem?_set_ne (by omega)] at h
    exact ⟨h, fun e => by omega⟩
  | succ i =>
    simp only [lst] at h
    split at h
    · rw [List.getElem?_set_ne (by omega)] at h
      by_cases hi2 : i = j
      · subst hi2
        exact absurd (set_at h) (by simp)
      · rw [List.getElem?_set_ne hi2] at h
        exact ⟨h, fun e => by omega⟩
    · rename_i hn
      rw [List.getElem?_set_ne (by omega)] at h
      refine ⟨h, fun e => ?_⟩
      have : i = j := by omega
      subst this
      have hg : ls.getD i none = some u := by simp [List.getD, h]
      rw [hg] at hn
      simpa using hn
/-- only longs fill two places here -/
def nof (ls : List (Option Value)) : Prop := ∀ v : Value, some v ∈ ls → v.category = 2 → isL (some v) = true
theorem cat_isL {v : Value} (h : v.category = 2) (hn : ∀ d, v ≠ .double d) : isL (some v) = true := by
  cases v <;> first | rfl | exact absurd rfl (hn _) | (simp [Value.category] at h)
theorem LH.st {G : Glb} {la : Array Slot} {nL : Nat} {ls : List (Option Value)} {i : Nat} {v : Value} (h : lv_has la nL ((i, cv G v) :: (asc G 0 ls).filter (fun q => !(q.1 == i) && !(q.1 + 1 == i && q.2.category == 2)))) (hd : ∀ d, ¬ some (Value.double d) ∈ ls) : LH G la nL (lst ls i v) := by
  refine ⟨h.1, h.2.1, fun q hq => h.2.2 q ?_⟩
  obtain ⟨j, w⟩ := q
  obtain ⟨k, u, e, hk, hw⟩ := (asc_mem _ 0 j w).mp hq
  have : j = k := by omega
  subst this
  subst hw
  by_cases hji : j = i
  · subst hji
    rw [lst_at hk]
    exact List.mem_cons_self
  · obtain ⟨g1, g2⟩ := lst_ne hji hk
    refine List.mem_cons_of_mem _ (List.mem_filter.mpr ⟨(asc_mem ls 0 j _).mpr ⟨j, u, by omega, g1, rfl⟩, ?_⟩)
    have h1 : (j == i) = false := by simpa using hji
    simp only [h1, Bool.not_false, Bool.true_and]
    by_cases h2 : j + 1 = i
    · have g3 := g2 h2
      have hc : ¬ u.category = 2 := fun z => by
        rw [cat_isL z (fun d ed => hd d (by rw [← ed]; exact List.mem_of_getElem? g1))] at g3
        cases g3
      simp [cv_cat, hc]
    · have h3 : (j + 1 == i) = false := by simpa using h2
      simp [h3]
/-- a long at i fills i and i + 1 -/
def lstL (ls : List (Option Value)) (i : Nat) (x : Int64) : List (Option Value) := (lst ls i (.long x)).set (i + 1) none
theorem LH.stL {G : Glb} {la : Array Slot} {nL : Nat} {ls : List (Option Value)} {i : Nat} {x : Int64} (h : lv_has la nL ((i, Value.long x) :: (asc G 0 ls).filter (fun q => !(q.1 == i) && (!(q.1 == i + 1) && !(q.1 + 1 == i && q.2.category == 2))))) (hd : ∀ d, ¬ some (Value.double d) ∈ ls) : LH G la nL (lstL ls i x) := by
  refine ⟨h.1, h.2.1, fun q hq => h.2.2 q ?_⟩
  obtain ⟨j, w⟩ := q
  obtain ⟨k, u, e, hk, hw⟩ := (asc_mem _ 0 j w).mp hq
  have : j = k := by omega
  subst this
  subst hw
  have hj1 : ¬ j = i + 1 := by
    intro z
    subst z
    exact absurd (set_at hk) (by simp)
  unfold lstL at hk
  rw [List.getElem?_set_ne (by omega)] at hk
  by_cases hji : j = i
  · subst hji
    rw [lst_at hk]
    exact List.mem_cons_self
  · obtain ⟨g1, g2⟩ := lst_ne hji hk
    refine List.mem_cons_of_mem _ (List.mem_filter.mpr ⟨(asc_mem ls 0 j _).mpr ⟨j, u, by omega, g1, rfl⟩, ?_⟩)
    have h1 : (j == i) = false := by simpa using hji
    have h4 : (j == i + 1) = false := by simpa using hj1
    simp only [h1, h4, Bool.not_false, Bool.true_and]
    by_cases h2 : j + 1 = i
    · have g3 := g2 h2
      have hc : ¬ u.category = 2 := fun z => by
        rw [cat_isL z (fun d ed => hd d (by rw [← ed]; exact List.mem_of_getElem? g1))] at g3
        cases g3
      simp [cv_cat, hc]
    · have h3 : (j + 1 == i) = false := by simpa using h2
      simp [h3]
