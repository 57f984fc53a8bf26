/-! the law's own rows: rows of ints and rows of rows, each by its number; ad says where a number's row lies -/
abbrev zs_E : Type := (Nat × FN) ⊕ (Nat × (Nat → Option Nat))
abbrev zs_H : Type := Nat × (Nat → zs_E)
def zs_row (cy : Nat → ClassId) (ad : Nat → Nat) (e : zs_E) : va_E := match e with
  | .inl (k, f) => .inl (cy 0, k, .inl f)
  | .inr (k, g) => .inl (cy 1, k, .inr (.inr (.inr (.inr (fun j => (g j).map ad)))))
def zs_rows (cy : Nat → ClassId) (ad : Nat → Nat) (h : zs_H) : va_W := (List.range h.1).map (fun i => (ad i, zs_row cy ad (h.2 i)))
def zs_obj (ad : Nat → Nat) (G : FN) (F : Nat → Nat) : List Value := [.int (G 0), .int (G 1), .int (G 2), .int (G 3), .int (G 4), .ref (ad (F 5)), .ref (ad (F 6)), .ref (ad (F 7)), .ref (ad (F 8)), .ref (ad (F 9)), .ref (ad (F 10)), .ref (ad (F 11))]
/-- the world: cells P, the law's object, its rows -/
abbrev zs_W (P : va_W) (cy : Nat → ClassId) (hs : Nat) (ad : Nat → Nat) (G : FN) (F : Nat → Nat) (h : zs_H) : va_W := (P ++ [(hs, .inr (6, zs_obj ad G F))]) ++ zs_rows cy ad h
/-- the rows' own references are to rows -/
def zs_wf (h : zs_H) : Prop := ∀ i, i < h.1 → ∀ (k : Nat) (g : Nat → Option Nat), h.2 i = .inr (k, g) → ∀ j v, g j = some v → v < h.1
def zs_fs (F : Nat → Nat) (h : zs_H) : Prop := ∀ k, F k < h.1
/-! what the instructions do to rows -/
def zs_ld (h : zs_H) (q : Nat) (i : Int32) : Option Int32 := if q < h.1 then (match h.2 q with
  | .inl (k, f) => ckI i k (some (f i.toNatClampNeg))
  | .inr _ => none) else none
def zs_ldr (h : zs_H) (q : Nat) (i : Int32) : Option Nat := if q < h.1 then (match h.2 q with
  | .inl _ => none
  | .inr (k, g) => ckI i k (g i.toNatClampNeg)) else none
def zs_len (h : zs_H) (q : Nat) : Option Int32 := if q < h.1 then (match h.2 q with
  | .inl (k, _) => some (Int32.ofNat k)
  | .inr (k, _) => some (Int32.ofNat k)) else none
def zs_st (h : zs_H) (q : Nat) (i v : Int32) : Option zs_H := if q < h.1 then (match h.2 q with
  | .inl (k, f) => ckI i k (some (h.1, va_up h.2 q (.inl (k, upd f i.toNatClampNeg v))))
  | .inr _ => none) else none
def zs_str (h : zs_H) (q : Nat) (i : Int32) (r : Nat) : Option zs_H := if q < h.1 ∧ r < h.1 then (match h.2 q, h.2 r with
  | .inr (k, g), .inl _ => ckI i k (some (h.1, va_up h.2 q (.inr (k, va_up g i.toNatClampNeg (some r)))))
  | _, _ => none) else none
def zs_nwi (h : zs_H) (v : Int32) (B : Nat) : Option zs_H := if 0 ≤ v.toInt ∧ v.toInt ≤ (B : Int) then some (h.1 + 1, va_up h.2 h.1 (.inl (v.toNatClampNeg, fun _ => 0))) else none
def zs_nwr (h : zs_H) (v : Int32) (B : Nat) : Option zs_H := if 0 ≤ v.toInt ∧ v.toInt ≤ (B : Int) then some (h.1 + 1, va_up h.2 h.1 (.inr (v.toNatClampNeg, fun _ => none))) else none
def zs_cl (h : zs_H) (q : Nat) (B : Nat) : Option zs_H := if q < h.1 then (match h.2 q with
  | .inl (k, f) => if k ≤ B then some (h.1 + 1, va_up h.2 h.1 (.inl (k, f))) else none
  | .inr _ => none) else none
def zs_nwm (h : zs_H) (a b : Nat) : zs_H := (h.1 + 1 + a, fun i => if i < h.1 then h.2 i else if i = h.1 then .inr (a, fun j => if j < a then some (h.1 + 1 + j) else none) else .inl (b, fun _ => 0))
theorem zs_ld_of {h : zs_H} {q : Nat} {i v : Int32} (z : zs_ld h q i = some v) : ∃ (k : Nat) (f : FN), q < h.1 ∧ h.2 q = .inl (k, f) ∧ vp_in i k ∧ v = f i.toNatClampNeg := by
  unfold zs_ld at z
  by_cases c : q < h.1
  · rw [if_pos c] at z
    cases e : h.2 q with
    | inl x =>
      obtain ⟨k, f⟩ := x
      rw [e] at z
      obtain ⟨h1, h2⟩ := ckI_some z
      exact ⟨k, f, c, rfl, h1, (Option.some.inj h2).symm⟩
    | inr x => rw [e] at z; cases z
  · rw [if_neg c] at z; cases z
theorem zs_ldr_of {h : zs_H} {q v : Nat} {i : Int32} (z : zs_ldr h q i = some v) : ∃ (k : Nat) (g : Nat → Option Nat), q < h.1 ∧ h.2 q = .inr (k, g) ∧ vp_in i k ∧ g i.toNatClampNeg = some v := by
  unfold zs_ldr at z
  by_cases c : q < h.1
  · rw [if_pos c] at z
    cases e : h.2 q with
    | inl x => rw [e] at z; cases z
    | inr x =>
      obtain ⟨k, g⟩ := x
      rw [e] at z
      obtain ⟨h1, h2⟩ := ckI_some z
      exact ⟨k, g, c, rfl, h1, h2⟩
  · rw [if_neg c] at z; cases z
theorem zs_ldr_lt {h : zs_H} (w : zs_wf h) {q v : Nat} {i : Int32} (z : zs_ldr h q i = some v) : v < h.1 := by
  obtain ⟨k, g, h1, h2, -, h4⟩ := zs_ldr_of z
  exact w q h1 k g h2 _ v h4
theorem zs_len_of {h : zs_H} {q : Nat} {v : Int32} (z : zs_len h q = some v) : q < h.1 ∧ ((∃ (k : Nat) (f : FN), h.2 q = .inl (k, f) ∧ Int32.ofNat k = v) ∨ ∃ (k : Nat) (g : Nat → Option Nat), h.2 q = .inr (k, g) ∧ Int32.ofNat k = v) := by
  unfold zs_len at z
  by_cases c : q < h.1
  · rw [if_pos c] at z
    refine ⟨c, ?_⟩
    cases e : h.2 q with
    | inl x => obtain ⟨k, f⟩ := x; rw [e] at z; exact Or.inl ⟨k, f, rfl, Option.some.inj z⟩
    | inr x => obtain ⟨k, f⟩ := x; rw [e] at z; exact Or.inr ⟨k, f, rfl, Option.some.inj z⟩
  · rw [if_neg c] at z; cases z
theorem zs_st_of {h h1 : zs_H} {q : Nat} {i v : Int32} (z : zs_st h q i v = some h1) : ∃ (k : Nat) (f : FN), q < h.1 ∧ h.2 q = .inl (k, f) ∧ vp_in i k ∧ h1 = (h.1, va_up h.2 q (.inl (k, upd f i.toNatClampNeg v))) := by
  unfold zs_st at z
  by_cases c : q < h.1
  · rw [if_pos c] at z
    cases e : h.2 q with
    | inl x =>
      obtain ⟨k, f⟩ := x
      rw [e] at z
      obtain ⟨h1, h2⟩ := ckI_some z
      exact ⟨k, f, c, rfl, h1, (Option.some.inj h2).symm⟩
    | inr x => rw [e] at z; cases z
  · rw [if_neg c] at z; cases z
theorem zs_str_of {h h1 : zs_H} {q r : Nat} {i : Int32} (z : zs_str h q i r = some h1) : ∃ (k : Nat) (g : Nat → Option Nat) (x : Nat × FN), q < h.1 ∧ r < h.1 ∧ h.2 q = .inr (k, g) ∧ h.2 r = .inl x ∧ vp_in i k ∧ h1 = (h.1, va_up h.2 q (.inr (k, va_up g i.toNatClampNeg (some r)))) := by
  unfold zs_str at z
  by_cases c : q < h.1 ∧ r < h.1
  · rw [if_pos c] at z
    cases e : h.2 q with
    | inl x => rw [e] at z; cases z
    | inr x =>
      obtain ⟨k, g⟩ := x
      cases e2 : h.2 r with
      | inr y => rw [e, e2] at z; cases z
      | inl y =>
        rw [e, e2] at z
        obtain ⟨h1, h2⟩ := ckI_some z
        exact ⟨k, g, y, c.1, c.2, rfl, rfl, h1, (Option.some.inj h2).symm⟩
  · rw [if_neg c] at z; cases z
theorem zs_nwi_of {h h1 : zs_H} {v : Int32} {B : Nat} (z : zs_nwi h v B = some h1) : ¬ v < 0 ∧ v.toNatClampNeg ≤ B ∧ h1 = (h.1 + 1, va_up h.2 h.1 (.inl (v.toNatClampNeg, fun _ => 0))) := by
  unfold zs_nwi at z
  by_cases c : 0 ≤ v.toInt ∧ v.toInt ≤ (B : Int)
  · rw [if_pos c] at z
    refine ⟨fun q => ?_, ?_, (Option.some.inj z).symm⟩
    · rw [Int32.lt_iff_toInt_lt] at q
      exact absurd c.1 (by have : (0 : Int32).toInt = 0 := rfl; omega)
    · have : (v.toNatClampNeg : Int) = v.toInt := by
        show ((v.toInt.toNat : Nat) : Int) = v.toInt
        omega
      omega
  · rw [if_neg c] at z; cases z
theorem zs_nwr_of {h h1 : zs_H} {v : Int32} {B : Nat} (z : zs_nwr h v B = some h1) : ¬ v < 0 ∧ v.toNatClampNeg ≤ B ∧ h1 = (h.1 + 1, va_up h.2 h.1 (.inr (v.toNatClampNeg, fun _ => none))) := by
  unfold zs_nwr at z
  by_cases c : 0 ≤ v.toInt ∧ v.toInt ≤ (B : Int)
  · rw [if_pos c] at z
    refine ⟨fun q => ?_, ?_, (Option.some.inj z).symm⟩
    · rw [Int32.lt_iff_toInt_lt] at q
      exact absurd c.1 (by have : (0 : Int32).toInt = 0 := rfl; omega)
    · have : (v.toNatClampNeg : Int) = v.toInt := by
        show ((v.toInt.toNat : Nat) : Int) = v.toInt
        omega
      omega
  · rw [if_neg c] at z; cases z
theorem zs_cl_of {h h1 : zs_H} {q B : Nat} (z : zs_cl h q B = some h1) : ∃ (k : Nat) (f : FN), q < h.1 ∧ h.2 q = .inl (k, f) ∧ k ≤ B ∧ h1 = (h.1 + 1, va_up h.2 h.1 (.inl (k, f))) := by
  unfold zs_cl at z
  by_cases c : q < h.1
  · rw [if_pos c] at z
    cases e : h.2 q with
    | inl x =>
      obtain ⟨k, f⟩ := x
      rw [e] at z
      by_cases c2 : k ≤ B
      · replace z : (if k ≤ B then some (h.1 + 1, va_up h.2 h.1 (.inl (k, f))) else none) = some h1 := z
        rw [if_pos c2] at z
        exact ⟨k, f, c, rfl, c2, (Option.some.inj z).symm⟩
      · replace z : (if k ≤ B then some (h.1 + 1, va_up h.2 h.1 (.inl (k, f))) else none) = some h1 := z
        rw [if_neg c2] at z; cases z
    | inr x => rw [e] at z; cases z
  · rw [if_neg c] at z; cases z
theorem zs_st_wf {h h1 : zs_H} (w : zs_wf h) {q : Nat} {i v : Int32} (z : zs_st h q i v = some h1) : zs_wf h1 ∧ h1.1 = h.1 := by
  obtain ⟨k, f, h1, h2, h3, rfl⟩ := zs_st_of z
  refine ⟨fun j hj k2 g he u v2 hv => ?_, rfl⟩
  by_cases c : j = q
  · subst c
    replace he : va_up h.2 j (.inl (k, upd f i.toNatClampNeg v)) j = .inr (k2, g) := he
    unfold va_up at he
    rw [if_pos rfl] at he
    cases he
  · replace he : va_up h.2 q (.inl (k, upd f i.toNatClampNeg v)) j = .inr (k2, g) := he
    unfold va_up at he
    rw [if_neg c] at he
    exact w j hj k2 g he u v2 hv
theorem zs_str_wf {h h1 : zs_H} (w : zs_wf h) {q r : Nat} {i : Int32} (z : zs_str h q i r = some h1) : zs_wf h1 ∧ h1.1 = h.1 := by
  obtain ⟨k, g0, x, h1, h2, h3, h4, h5, rfl⟩ := zs_str_of z
  refine ⟨fun j hj k2 g he u v2 hv => ?_, rfl⟩
  replace he : va_up h.2 q (.inr (k, va_up g0 i.toNatClampNeg (some r))) j = .inr (k2, g) := he
  unfold va_up at he
  by_cases c : j = q
  · subst c
    rw [if_pos rfl] at he
    have e := Sum.inr.inj he
    have e2 := congrArg Prod.snd e
    replace e2 : (fun j => if j = i.toNatClampNeg then some r else g0 j) = g := e2
    rw [← e2] at hv
    by_cases c3 : u = i.toNatClampNeg
    · replace hv : (if u = i.toNatClampNeg then some r else g0 u) = some v2 := hv
      rw [if_pos c3] at hv
      exact (Option.some.inj hv) ▸ h2
    · replace hv : (if u = i.toNatClampNeg then some r else g0 u) = some v2 := hv
      rw [if_neg c3] at hv
      exact w j hj k g0 h3 u v2 hv
  · rw [if_neg c] at he
    exact w j hj k2 g he u v2 hv
theorem zs_push_wf {h : zs_H} (w : zs_wf h) {e : zs_E} (he : ∀ (k : Nat) (g : Nat → Option Nat), e = .inr (k, g) → ∀ j v, g j = some v → v < h.1 + 1) : zs_wf (h.1 + 1, va_up h.2 h.1 e) := by
  intro j hj k g hz u v hv
  replace hz : va_up h.2 h.1 e j = .inr (k, g) := hz
  unfold va_up at hz
  by_cases c : j = h.1
  · rw [if_pos c] at hz
    exact he k g hz u v hv
  · rw [if_neg c] at hz
    exact Nat.lt_succ_of_lt (w j (by have : j < h.1 + 1 := hj; omega) k g hz u v hv)
theorem zs_nwi_wf {h h1 : zs_H} (w : zs_wf h) {v : Int32} {B : Nat} (z : zs_nwi h v B = some h1) : zs_wf h1 ∧ h1.1 = h.1 + 1 := by
  obtain ⟨-, -, rfl⟩ := zs_nwi_of z
  exact ⟨zs_push_wf w (fun k g e => by cases e), rfl⟩
theorem zs_nwr_wf {h h1 : zs_H} (w : zs_wf h) {v : Int32} {B : Nat} (z : zs_nwr h v B = some h1) : zs_wf h1 ∧ h1.1 = h.1 + 1 := by
  obtain ⟨-, -, rfl⟩ := zs_nwr_of z
  exact ⟨zs_push_wf w (fun k g e j v hv => by cases e; cases hv), rfl⟩
theorem zs_cl_wf {h h1 : zs_H} (w : zs_wf h) {q B : Nat} (z : zs_cl h q B = some h1) : zs_wf h1 ∧ h1.1 = h.1 + 1 := by
  obtain ⟨k, f, -, -, -, rfl⟩ := zs_cl_of z
  exact ⟨zs_push_wf w (fun k g e => by cases e), rfl⟩
theorem zs_nwm_wf {h : zs_H} (w : zs_wf h) (a b : Nat) : zs_wf (zs_nwm h a b) := by
  intro j hj k g hz u v hv
  show v < h.1 + 1 + a
  replace hz : (if j < h.1 then h.2 j else if j = h.1 then (.inr (a, fun j => if j < a then some (h.1 + 1 + j) else none) : zs_E) else .inl (b, fun _ => 0)) = .inr (k, g) := hz
  by_cases c : j < h.1
  · rw [if_pos c] at hz
    have := w j c k g hz u v hv
    omega
  · rw [if_neg c] at hz
    by_cases c2 : j = h.1
    · rw [if_pos c2] at hz
      have e := congrArg Prod.snd (Sum.inr.inj hz)
      replace e : (fun j => if j < a then some (h.1 + 1 + j) else none) = g := e
      rw [← e] at hv
      replace hv : (if u < a then some (h.1 + 1 + u) else none) = some v := hv
      by_cases c3 : u < a
      · rw [if_pos c3] at hv
        have := Option.some.inj hv
        omega
      · rw [if_neg c3] at hv; cases hv
    · rw [if_neg c2] at hz; cases hz
/-! the world -/
theorem zs_row_congr {cy : Nat → ClassId} {ad ad2 : Nat → Nat} {h : zs_H} (w : zs_wf h) (ha : ∀ i, i < h.1 → ad2 i = ad i) {i : Nat} (hi : i < h.1) : zs_row cy ad2 (h.2 i) = zs_row cy ad (h.2 i) := by
  cases e : h.2 i with
  | inl x => rfl
  | inr x =>
    obtain ⟨k, g⟩ := x
    show (.inl (cy 1, k, .inr (.inr (.inr (.inr (fun j => (g j).map ad2))))) : va_E) = .inl (cy 1, k, .inr (.inr (.inr (.inr (fun j => (g j).map ad)))))
    have : (fun j => (g j).map ad2) = (fun j => (g j).map ad) := by
      funext j
      cases ej : g j with
      | none => rfl
      | some v =>
        show some (ad2 v) = some (ad v)
        rw [ha v (w i hi k g e j v ej)]
    rw [this]
theorem zs_rows_congr {cy : Nat → ClassId} {ad ad2 : Nat → Nat} {h : zs_H} (w : zs_wf h) (ha : ∀ i, i < h.1 → ad2 i = ad i) : zs_rows cy ad2 h = zs_rows cy ad h := by
  unfold zs_rows
  refine List.map_congr_left (fun i hi => ?_)
  have hi' := List.mem_range.mp hi
  rw [ha i hi', zs_row_congr w ha hi']
theorem zs_obj_congr {ad ad2 : Nat → Nat} {G : FN} {F : Nat → Nat} {h : zs_H} (hf : zs_fs F h) (ha : ∀ i, i < h.1 → ad2 i = ad i) : zs_obj ad2 G F = zs_obj ad G F := by
  unfold zs_obj
  rw [ha _ (hf 5), ha _ (hf 6), ha _ (hf 7), ha _ (hf 8), ha _ (hf 9), ha _ (hf 10), ha _ (hf 11)]
theorem zs_rows_len {cy : Nat → ClassId} {ad : Nat → Nat} {h : zs_H} : (zs_rows cy ad h).length = h.1 := by
  unfold zs_rows
  rw [List.length_map, List.length_range]
theorem zs_rows_get {cy : Nat → ClassId} {ad : Nat → Nat} {h : zs_H} {Q : va_W} {i : Nat} (hi : i < h.1) : (Q ++ zs_rows cy ad h)[Q.length + i]? = some (ad i, zs_row cy ad (h.2 i)) := by
  rw [List.getElem?_append_right (Nat.le_add_right _ _), Nat.add_sub_cancel_left]
  unfold zs_rows
  rw [List.getElem?_map, List.getElem?_range hi]
  rfl
theorem zs_rows_set {cy : Nat → ClassId} {ad : Nat → Nat} {h : zs_H} {Q : va_W} {i : Nat} {e : zs_E} : (Q ++ zs_rows cy ad h).set (Q.length + i) (ad i, zs_row cy ad e) = Q ++ zs_rows cy ad (h.1, va_up h.2 i e) := by
  rw [List.set_append_right _ _ (Nat.le_add_right _ _), Nat.add_sub_cancel_left]
  congr 1
  unfold zs_rows
  refine List.ext_getElem? (fun j => ?_)
  show _ = ((List.range h.1).map (fun k => (ad k, zs_row cy ad (va_up h.2 i e k))))[j]?
  by_cases hj : j < h.1
  · rw [List.getElem?_map, List.getElem?_range hj]
    by_cases c : i = j
    · subst c
      rw [List.getElem?_set_self (by rw [List.length_map, List.length_range]; exact hj)]
      show _ = some (ad i, zs_row cy ad (if i = i then e else h.2 i))
      rw [if_pos rfl]
    · rw [List.getElem?_set_ne c, List.getElem?_map, List.getElem?_range hj]
      show some (ad j, zs_row cy ad (h.2 j)) = some (ad j, zs_row cy ad (if j = i then e else h.2 j))
      rw [if_neg (fun q => c q.symm)]
  · rw [List.getElem?_eq_none (by rw [List.length_set, List.length_map, List.length_range]; omega), List.getElem?_eq_none (by rw [List.length_map, List.length_range]; omega)]
theorem zs_rows_push {cy : Nat → ClassId} {ad ad2 : Nat → Nat} {h : zs_H} (w : zs_wf h) {Q : va_W} {q : Nat} {e : zs_E} (ha : ∀ i, i < h.1 → ad2 i = ad i) (hq : ad2 h.1 = q) : (Q ++ zs_rows cy ad h) ++ [(q, zs_row cy ad2 e)] = Q ++ zs_rows cy ad2 (h.1 + 1, va_up h.2 h.1 e) := by
  rw [List.append_assoc, ← zs_rows_congr w ha]
  congr 1
  unfold zs_rows
  show _ = (List.range (h.1 + 1)).map (fun k => (ad2 k, zs_row cy ad2 (va_up h.2 h.1 e k)))
  rw [List.range_succ, List.map_append]
  congr 1
  · refine List.map_congr_left (fun i hi => ?_)
    have hi' := List.mem_range.mp hi
    show _ = (ad2 i, zs_row cy ad2 (if i = h.1 then e else h.2 i))
    rw [if_neg (by omega)]
  · show _ = [(ad2 h.1, zs_row cy ad2 (if h.1 = h.1 then e else h.2 h.1))]
    rw [if_pos rfl, hq]
theorem zs_fs_le {F : Nat → Nat} {h h1 : zs_H} (hf : zs_fs F h) (hl : h.1 ≤ h1.1) : zs_fs F h1 := fun k => Nat.lt_of_lt_of_le (hf k) hl
theorem zs_fs_up {F : Nat → Nat} {h : zs_H} (hf : zs_fs F h) {k v : Nat} (hv : v < h.1) : zs_fs (va_up F k v) h := fun j => by
  unfold va_up
  by_cases c : j = k
  · rw [if_pos c]; exact hv
  · rw [if_neg c]; exact hf j
theorem zs_at {P : va_W} {cy : Nat → ClassId} {hs : Nat} {ad : Nat → Nat} {G : FN} {F : Nat → Nat} {h : zs_H} : (zs_W P cy hs ad G F h)[P.length]? = some (hs, .inr (6, zs_obj ad G F)) := by
  unfold zs_W
  rw [List.getElem?_append_left (by rw [List.length_append]; exact Nat.lt_succ_self _), List.getElem?_append_right (Nat.le_refl _), Nat.sub_self]
  rfl
theorem zs_set {P : va_W} {cy : Nat → ClassId} {hs : Nat} {ad : Nat → Nat} {G G2 : FN} {F F2 : Nat → Nat} {h : zs_H} {vs : List Value} (e : vs = zs_obj ad G2 F2) : (zs_W P cy hs ad G F h).set P.length (hs, .inr (6, vs)) = zs_W P cy hs ad G2 F2 h := by
  subst e
  unfold zs_W
  rw [List.set_append_left _ _ (by rw [List.length_append]; exact Nat.lt_succ_self _), List.set_append_right _ _ (Nat.le_refl _), Nat.sub_self]
  rfl
