/-! The machine seen from afar: an abstract heap (numbers, references, longs, kinds, lengths, how many cells), frames of abstract values, and V: the machine comes from here to Q. -/
def TG : List Cond := lw_tbl.filter goodWord
theorem tg_mem {w : Cond} (i : Nat) (h : lw_tbl[i]? = some w) (hg : goodWord w = true) : w ∈ TG := List.mem_filter.mpr ⟨List.mem_of_getElem? h, hg⟩
theorem tg_good {w : Cond} (h : w ∈ TG) : goodWord w = true := (List.mem_filter.mp h).2
theorem tg_mems {ws : List Cond} (ps : List Nat) (h : ws = ps.filterMap (fun i => lw_tbl[i]?)) (hg : ws.all goodWord = true) : ∀ w ∈ ws, w ∈ TG := by
  intro w hw
  have h1 := List.all_eq_true.mp hg w hw
  rw [h] at hw
  obtain ⟨i, -, hi⟩ := List.mem_filterMap.mp hw
  exact tg_mem i hi h1
/-- heap: ints, references, longs, kinds (0 .. 12 objects; 100 int[], 101 boolean[], 102 Eyes[], 103 Sheet[]), lengths, cells -/
abbrev AHp : Type := (Nat → Nat → Int32) × (Nat → Nat → Option Nat) × (Nat → Nat → Int64) × (Nat → Nat) × (Nat → Nat) × Nat
def hpI (h : AHp) : Nat → Nat → Int32 := h.1
def hpR (h : AHp) : Nat → Nat → Option Nat := h.2.1
def hpJ (h : AHp) : Nat → Nat → Int64 := h.2.2.1
def hpK (h : AHp) : Nat → Nat := h.2.2.2.1
def hpL (h : AHp) : Nat → Nat := h.2.2.2.2.1
def hpN (h : AHp) : Nat := h.2.2.2.2.2
def up2 {α : Type} (f : Nat → Nat → α) (a k : Nat) (v : α) : Nat → Nat → α := fun b j => if b = a ∧ j = k then v else f b j
def stI (h : AHp) (a k : Nat) (v : Int32) : AHp := (up2 h.1 a k v, h.2)
def stR (h : AHp) (a k : Nat) (v : Option Nat) : AHp := (h.1, up2 h.2.1 a k v, h.2.2)
def stJ (h : AHp) (a k : Nat) (v : Int64) : AHp := (h.1, h.2.1, up2 h.2.2.1 a k v, h.2.2.2)
def stN (h : AHp) (c n : Nat) : AHp := ((fun b j => if b = hpN h then 0 else h.1 b j), (fun b j => if b = hpN h then none else h.2.1 b j), (fun b j => if b = hpN h then 0 else h.2.2.1 b j), (fun b => if b = hpN h then c else hpK h b), (fun b => if b = hpN h then n else hpL h b), hpN h + 1)
/-- what is fixed for the run: base, class numbers, slots, array classes, the heap at the law's entry, special addresses -/
abbrev Glb : Type := Nat × (Nat → ClassId) × (Nat → Nat → Nat) × (Nat → ClassId) × Heap × (Nat → Nat)
def gB (G : Glb) : Nat := G.1
abbrev gD (G : Glb) : va_G := (G.2.1, G.2.2.1)
def gA (G : Glb) : Nat → ClassId := G.2.2.2.1
def gH (G : Glb) : Heap := G.2.2.2.2.1
def gS (G : Glb) : Nat → Nat := G.2.2.2.2.2
def gAd (G : Glb) (a : Nat) : Nat := if a < 1000000 then gB G + a else gS G (a - 1000000)
def cv (G : Glb) (v : Value) : Value := match v with
  | .ref a => .ref (gAd G a)
  | v => v
theorem gAd_lt {G : Glb} {a : Nat} (h : a < 1000000) : gAd G a = gB G + a := if_pos h
/-- tags of a class' fields: 0 int, 1 reference, 2 long, 3 boolean -/
def lyt (c : Nat) : List Nat := match c with
  | 0 => [1, 1, 0, 0, 0, 0]
  | 1 => [0]
  | 2 => [0]
  | 3 => [0]
  | 4 => [0]
  | 5 => [1, 1, 0, 1, 1, 0, 1, 1, 1, 1, 0, 3, 0]
  | 6 => [1, 0, 0]
  | 7 => [0]
  | 8 => [0]
  | 9 => [1, 1, 0, 0, 0]
  | 10 => [1, 0, 0, 1, 1, 1, 0, 0, 0, 0, 1, 0, 0, 0]
  | 11 => [1, 1, 1, 3, 1, 0, 1, 1, 1, 1, 0, 0, 0, 0]
  | 12 => [0, 1, 1, 0, 0, 1, 0, 1, 1, 0, 0, 0, 1, 1, 0, 0, 0, 0, 0, 0, 0, 0, 0, 0, 0, 0, 2, 0, 3, 0, 0, 0, 0, 1, 1, 1, 1, 0, 0, 1, 1, 0, 0, 0, 1, 1, 0, 0, 0, 0, 1, 1, 1, 1]
  | _ => []
def fdv (G : Glb) (h : AHp) (a t k : Nat) : Value := if t = 1 then va_rf ((hpR h a k).map (gAd G)) else if t = 2 then .long (hpJ h a k) else .int (hpI h a k)
def fls (G : Glb) (h : AHp) (a : Nat) : Nat → List Nat → List Value
  | _, [] => []
  | k, t :: ts => fdv G h a t k :: fls G h a (k + 1) ts
def celE (G : Glb) (h : AHp) (a : Nat) : va_E :=
  if hpK h a < 100 then .inr (hpK h a, fls G h a 0 (lyt (hpK h a)))
  else if hpK h a < 102 then .inl (gA G (hpK h a), (hpL h a, .inl (hpI h a)))
  else .inl (gA G (hpK h a), (hpL h a, .inr (.inr (.inr (.inr (fun i => (hpR h a i).map (gAd G)))))))
def Wd (G : Glb) (h : AHp) (H : Heap) : Prop := H.size = gB G + hpN h ∧ hpN h < 1000000 ∧ (∀ q, q < gB G → H[q]? = (gH G)[q]?) ∧ ∀ a, a < hpN h → va_at (gD G) vwCl (gB G + a, celE G h a) H
def arT (k : Nat) : FieldType := match k with
  | 100 => .int
  | 101 => .boolean
  | 102 => .object RX1
  | _ => .object RX6
abbrev tyA (G : Glb) : List (ClassId × FieldType) := [(gA G 100, .int), (gA G 101, .boolean), (gA G 102, .object RX1), (gA G 103, .object RX6)]
def Kd (h : AHp) (a c : Nat) : Prop := hpK h a = c ∧ a < hpN h
