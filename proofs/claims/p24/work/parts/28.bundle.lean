abbrev MS : Type := (((((Int32 × Int32) × Int32) × ((Int32 × Int32) × FN)) × (((FN × FN) × FN) × ((FN × Int32) × FN))) × ((((FN × FN) × Int32) × ((FN × FN) × FN)) × (((Int32 × Int32) × FN) × ((FN × FN) × FN))))
abbrev MS.day (x : MS) : Int32 := x.1.1.1.1.1
abbrev MS.coins (x : MS) : Int32 := x.1.1.1.1.2
abbrev MS.felts (x : MS) : Int32 := x.1.1.1.2
abbrev MS.made (x : MS) : Int32 := x.1.1.2.1.1
abbrev MS.worth (x : MS) : Int32 := x.1.1.2.1.2
abbrev MS.rags (x : MS) : FN := x.1.1.2.2
abbrev MS.water (x : MS) : FN := x.1.2.1.1.1
abbrev MS.pulp (x : MS) : FN := x.1.2.1.1.2
abbrev MS.beat (x : MS) : FN := x.1.2.1.2
abbrev MS.sort (x : MS) : FN := x.1.2.2.1.1
abbrev MS.nM (x : MS) : Int32 := x.1.2.2.1.2
abbrev MS.mark (x : MS) : FN := x.1.2.2.2
abbrev MS.size (x : MS) : FN := x.2.1.1.1.1
abbrev MS.worn (x : MS) : FN := x.2.1.1.1.2
abbrev MS.nT (x : MS) : Int32 := x.2.1.1.2
abbrev MS.skill (x : MS) : FN := x.2.1.2.1.1
abbrev MS.vat (x : MS) : FN := x.2.1.2.1.2
abbrev MS.pair (x : MS) : FN := x.2.1.2.2
abbrev MS.nQ (x : MS) : Int32 := x.2.2.1.1.1
abbrev MS.allS (x : MS) : Int32 := x.2.2.1.1.2
abbrev MS.pmark (x : MS) : FN := x.2.2.1.2
abbrev MS.pgrade (x : MS) : FN := x.2.2.2.1.1
abbrev MS.psheets (x : MS) : FN := x.2.2.2.1.2
abbrev MS.loft (x : MS) : FN := x.2.2.2.2
abbrev MS.of (day : Int32) (coins : Int32) (felts : Int32) (made : Int32) (worth : Int32) (rags : FN) (water : FN) (pulp : FN) (beat : FN) (sort : FN) (nM : Int32) (mark : FN) (size : FN) (worn : FN) (nT : Int32) (skill : FN) (vat : FN) (pair : FN) (nQ : Int32) (allS : Int32) (pmark : FN) (pgrade : FN) (psheets : FN) (loft : FN) : MS := (((((day, coins), felts), ((made, worth), rags)), (((water, pulp), beat), ((sort, nM), mark))), ((((size, worn), nT), ((skill, vat), pair)), (((nQ, allS), pmark), ((pgrade, psheets), loft))))

abbrev XT : Type := MS × MS
def zx_W (cy : Nat → ClassId) (h : Nat → Nat) (X : XT) : va_W := wX5 cy h X.1.day X.1.coins X.1.felts X.1.made X.1.worth X.1.rags X.1.water X.1.pulp X.1.beat X.1.sort X.1.nM X.1.mark X.1.size X.1.worn X.1.nT X.1.skill X.1.vat X.1.pair X.1.nQ X.1.allS X.1.pmark X.1.pgrade X.1.psheets X.1.loft X.2.day X.2.coins X.2.felts X.2.made X.2.worth X.2.rags X.2.water X.2.pulp X.2.beat X.2.sort X.2.nM X.2.mark X.2.size X.2.worn X.2.nT X.2.skill X.2.vat X.2.pair X.2.nQ X.2.allS X.2.pmark X.2.pgrade X.2.psheets X.2.loft
theorem zx_at {cy : Nat → ClassId} {h : Nat → Nat} {X : XT} : (zx_W cy h X)[0]? = some (h 0, .inr (5, [.ref (h 1), .ref (h 21)])) := rfl
theorem zx_m {cy : Nat → ClassId} {h : Nat → Nat} {X Y : XT} : (zx_W cy h Y).map (fun q => q.1) = (zx_W cy h X).map (fun q => q.1) := rfl
def zx_about (X : XT) (a1 : Int32) (a2 : Int32) : Option (Int32) := match fX5_about X.1.pulp X.1.beat X.1.sort a1 a2 with
  | some (.inl w) => some w
  | _ => none
set_option maxRecDepth 100000 in
set_option maxHeartbeats 4000000 in
theorem kzx_about (l : Launch) (D : va_G) (cy : Nat → ClassId) (sa : SAT) (h : Nat → Nat) (X : XT) (a1 : Int32) (a2 : Int32) (z : Int32) (hF : zx_about X a1 a2 = some z) : KI l D (tyW cy) sa yX5_about wsX5_about rX5_about [.ref (h 0), .int a1, .int a2] (zx_W cy h X) z (fun _ => zx_W cy h X) 0 0 := by
  unfold zx_about at hF
  cases ho : fX5_about X.1.pulp X.1.beat X.1.sort a1 a2 with
  | none =>
    rw [ho] at hF
    cases hF
  | some o =>
    cases o with
    | inr k =>
      rw [ho] at hF
      cases hF
    | inl w =>
      rw [ho] at hF
      cases hF
      exact kX5_about l D cy sa h X.1.day X.1.coins X.1.felts X.1.made X.1.worth X.1.rags X.1.water X.1.pulp X.1.beat X.1.sort X.1.nM X.1.mark X.1.size X.1.worn X.1.nT X.1.skill X.1.vat X.1.pair X.1.nQ X.1.allS X.1.pmark X.1.pgrade X.1.psheets X.1.loft X.2.day X.2.coins X.2.felts X.2.made X.2.worth X.2.rags X.2.water X.2.pulp X.2.beat X.2.sort X.2.nM X.2.mark X.2.size X.2.worn X.2.nT X.2.skill X.2.vat X.2.pair X.2.nQ X.2.allS X.2.pmark X.2.pgrade X.2.psheets X.2.loft a1 a2 _ ho
def zx_buy (X : XT) (a1 : Int32) (a2 : Int32) : Option (Int32 × XT) := match fX5_buy X.1.coins X.1.felts X.1.rags a1 a2 with
  | some (.inl w) => some (w.1, ((MS.of X.1.day w.2.1 w.2.2.1 X.1.made X.1.worth w.2.2.2 X.1.water X.1.pulp X.1.beat X.1.sort X.1.nM X.1.mark X.1.size X.1.worn X.1.nT X.1.skill X.1.vat X.1.pair X.1.nQ X.1.allS X.1.pmark X.1.pgrade X.1.psheets X.1.loft), X.2))
  | _ => none
set_option maxRecDepth 100000 in
set_option maxHeartbeats 4000000 in
theorem kzx_buy (l : Launch) (D : va_G) (cy : Nat → ClassId) (sa : SAT) (h : Nat → Nat) (X : XT) (a1 : Int32) (a2 : Int32) (z : Int32 × XT) (hF : zx_buy X a1 a2 = some z) : KI l D (tyW cy) sa yX5_buy wsX5_buy rX5_buy [.ref (h 0), .int a1, .int a2] (zx_W cy h X) z.1 (fun _ => zx_W cy h z.2) 0 0 := by
  unfold zx_buy at hF
  cases ho : fX5_buy X.1.coins X.1.felts X.1.rags a1 a2 with
  | none =>
    rw [ho] at hF
    cases hF
  | some o =>
    cases o with
    | inr k =>
      rw [ho] at hF
      cases hF
    | inl w =>
      rw [ho] at hF
      cases hF
      exact kX5_buy l D cy sa h X.1.day X.1.coins X.1.felts X.1.made X.1.worth X.1.rags X.1.water X.1.pulp X.1.beat X.1.sort X.1.nM X.1.mark X.1.size X.1.worn X.1.nT X.1.skill X.1.vat X.1.pair X.1.nQ X.1.allS X.1.pmark X.1.pgrade X.1.psheets X.1.loft X.2.day X.2.coins X.2.felts X.2.made X.2.worth X.2.rags X.2.water X.2.pulp X.2.beat X.2.sort X.2.nM X.2.mark X.2.size X.2.worn X.2.nT X.2.skill X.2.vat X.2.pair X.2.nQ X.2.allS X.2.pmark X.2.pgrade X.2.psheets X.2.loft a1 a2 w ho
def zx_count (X : XT) (a1 : Int32) : Option (Int32) := match fX5_count X.1.day X.1.coins X.1.felts X.1.made X.1.worth X.1.rags X.1.pulp X.1.nQ X.1.allS X.1.loft a1 with
  | some (.inl w) => some w
  | _ => none
set_option maxRecDepth 100000 in
set_option maxHeartbeats 4000000 in
theorem kzx_count (l : Launch) (D : va_G) (cy : Nat → ClassId) (sa : SAT) (h : Nat → Nat) (X : XT) (a1 : Int32) (z : Int32) (hF : zx_count X a1 = some z) : KI l D (tyW cy) sa yX5_count wsX5_count rX5_count [.ref (h 0), .int a1] (zx_W cy h X) z (fun _ => zx_W cy h X) 0 0 := by
  unfold zx_count at hF
  cases ho : fX5_count X.1.day X.1.coins X.1.felts X.1.made X.1.worth X.1.rags X.1.pulp X.1.nQ X.1.allS X.1.loft a1 with
  | none =>
    rw [ho] at hF
    cases hF
  | some o =>
    cases o with
    | inr k =>
      rw [ho] at hF
      cases hF
    | inl w =>
      rw [ho] at hF
      cases hF
      exact kX5_count l D cy sa h X.1.day X.1.coins X.1.felts X.1.made X.1.worth X.1.rags X.1.water X.1.pulp X.1.beat X.1.sort X.1.nM X.1.mark X.1.size X.1.worn X.1.nT X.1.skill X.1.vat X.1.pair X.1.nQ X.1.allS X.1.pmark X.1.pgrade X.1.psheets X.1.loft X.2.day X.2.coins X.2.felts X.2.made X.2.worth X.2.rags X.2.water X.2.pulp X.2.beat X.2.sort X.2.nM X.2.mark X.2.size X.2.worn X.2.nT X.2.skill X.2.vat X.2.pair X.2.nQ X.2.allS X.2.pmark X.2.pgrade X.2.psheets X.2.loft a1 _ ho
def zx_drain (X : XT) (a1 : Int32) : Option (Int32 × XT) := match fX5_drain X.1.pulp X.1.beat X.1.sort a1 with
  | some (.inl w) => some (w.1, ((MS.of X.1.day X.1.coins X.1.felts X.1.made X.1.worth X.1.rags X.1.water w.2.1 w.2.2.1 w.2.2.2 X.1.nM X.1.mark X.1.size X.1.worn X.1.nT X.1.skill X.1.vat X.1.pair X.1.nQ X.1.allS X.1.pmark X.1.pgrade X.1.psheets X.1.loft), X.2))
  | _ => none
set_option maxRecDepth 100000 in
set_option maxHeartbeats 4000000 in
theorem kzx_drain (l : Launch) (D : va_G) (cy : Nat → ClassId) (sa : SAT) (h : Nat → Nat) (X : XT) (a1 : Int32) (z : Int32 × XT) (hF : zx_drain X a1 = some z) : KI l D (tyW cy) sa yX5_drain wsX5_drain rX5_drain [.ref (h 0), .int a1] (zx_W cy h X) z.1 (fun _ => zx_W cy h z.2) 0 0 := by
  unfold zx_drain at hF
  cases ho : fX5_drain X.1.pulp X.1.beat X.1.sort a1 with
  | none =>
    rw [ho] at hF
    cases hF
  | some o =>
    cases o with
    | inr k =>
      rw [ho] at hF
      cases hF
    | inl w =>
      rw [ho] at hF
      cases hF
      exact kX5_drain l D cy sa h X.1.day X.1.coins X.1.felts X.1.made X.1.worth X.1.rags X.1.water X.1.pulp X.1.beat X.1.sort X.1.nM X.1.mark X.1.size X.1.worn X.1.nT X.1.skill X.1.vat X.1.pair X.1.nQ X.1.allS X.1.pmark X.1.pgrade X.1.psheets X.1.loft X.2.day X.2.coins X.2.felts X.2.made X.2.worth X.2.rags X.2.water X.2.pulp X.2.beat X.2.sort X.2.nM X.2.mark X.2.size X.2.worn X.2.nT X.2.skill X.2.vat X.2.pair X.2.nQ X.2.allS X.2.pmark X.2.pgrade X.2.psheets X.2.loft a1 w ho
def zx_fill (X : XT) (a1 : Int32) (a2 : Int32) (a3 : Int32) : Option (Int32 × XT) := match fX5_fill X.1.rags X.1.pulp X.1.beat X.1.sort a1 a2 a3 with
  | some (.inl w) => some (w.1, ((MS.of X.1.day X.1.coins X.1.felts X.1.made X.1.worth w.2.1 X.1.water w.2.2.1 w.2.2.2.1 w.2.2.2.2 X.1.nM X.1.mark X.1.size X.1.worn X.1.nT X.1.skill X.1.vat X.1.pair X.1.nQ X.1.allS X.1.pmark X.1.pgrade X.1.psheets X.1.loft), X.2))
  | _ => none
set_option maxRecDepth 100000 in
set_option maxHeartbeats 4000000 in
theorem kzx_fill (l : Launch) (D : va_G) (cy : Nat → ClassId) (sa : SAT) (h : Nat → Nat) (X : XT) (a1 : Int32) (a2 : Int32) (a3 : Int32) (z : Int32 × XT) (hF : zx_fill X a1 a2 a3 = some z) : KI l D (tyW cy) sa yX5_fill wsX5_fill rX5_fill [.ref (h 0), .int a1, .int a2, .int a3] (zx_W cy h X) z.1 (fun _ => zx_W cy h z.2) 0 0 := by
  unfold zx_fill at hF
  cases ho : fX5_fill X.1.rags X.1.pulp X.1.beat X.1.sort a1 a2 a3 with
  | none =>
    rw [ho] at hF
    cases hF
  | some o =>
    cases o with
    | inr k =>
      rw [ho] at hF
      cases hF
    | inl w =>
      rw [ho] at hF
      cases hF
      exact kX5_fill l D cy sa h X.1.day X.1.coins X.1.felts X.1.made X.1.worth X.1.rags X.1.water X.1.pulp X.1.beat X.1.sort X.1.nM X.1.mark X.1.size X.1.worn X.1.nT X.1.skill X.1.vat X.1.pair X.1.nQ X.1.allS X.1.pmark X.1.pgrade X.1.psheets X.1.loft X.2.day X.2.coins X.2.felts X.2.made X.2.worth X.2.rags X.2.water X.2.pulp X.2.beat X.2.sort X.2.nM X.2.mark X.2.size X.2.worn X.2.nT X.2.skill X.2.vat X.2.pair X.2.nQ X.2.allS X.2.pmark X.2.pgrade X.2.psheets X.2.loft a1 a2 a3 w ho
def zx_foresee (X : XT) (a1 : Int32) (a2 : Int32) : Option (Int32 × XT) := match fX5_foresee X.1.day X.1.coins X.1.felts X.1.made X.1.worth X.1.rags X.1.water X.1.pulp X.1.beat X.1.sort X.1.nM X.1.mark X.1.size X.1.worn X.1.nT X.1.skill X.1.vat X.1.pair X.1.nQ X.1.allS X.1.pmark X.1.pgrade X.1.psheets X.1.loft a1 a2 with
  | some (.inl w) => some (w.1, (X.1, (MS.of w.2.1 w.2.2.1 w.2.2.2.1 w.2.2.2.2.1 w.2.2.2.2.2.1 w.2.2.2.2.2.2.1 w.2.2.2.2.2.2.2.1 w.2.2.2.2.2.2.2.2.1 w.2.2.2.2.2.2.2.2.2.1 w.2.2.2.2.2.2.2.2.2.2.1 w.2.2.2.2.2.2.2.2.2.2.2.1 w.2.2.2.2.2.2.2.2.2.2.2.2.1 w.2.2.2.2.2.2.2.2.2.2.2.2.2.1 w.2.2.2.2.2.2.2.2.2.2.2.2.2.2.1 w.2.2.2.2.2.2.2.2.2.2.2.2.2.2.2.1 w.2.2.2.2.2.2.2.2.2.2.2.2.2.2.2.2.1 w.2.2.2.2.2.2.2.2.2.2.2.2.2.2.2.2.2.1 w.2.2.2.2.2.2.2.2.2.2.2.2.2.2.2.2.2.2.1 w.2.2.2.2.2.2.2.2.2.2.2.2.2.2.2.2.2.2.2.1 w.2.2.2.2.2.2.2.2.2.2.2.2.2.2.2.2.2.2.2.2.1 w.2.2.2.2.2.2.2.2.2.2.2.2.2.2.2.2.2.2.2.2.2.1 w.2.2.2.2.2.2.2.2.2.2.2.2.2.2.2.2.2.2.2.2.2.2.1 w.2.2.2.2.2.2.2.2.2.2.2.2.2.2.2.2.2.2.2.2.2.2.2.1 w.2.2.2.2.2.2.2.2.2.2.2.2.2.2.2.2.2.2.2.2.2.2.2.2)))
  | _ => none
set_option maxRecDepth 100000 in
set_option maxHeartbeats 4000000 in
theorem kzx_foresee (l : Launch) (D : va_G) (cy : Nat → ClassId) (sa : SAT) (h : Nat → Nat) (X : XT) (a1 : Int32) (a2 : Int32) (z : Int32 × XT) (hF : zx_foresee X a1 a2 = some z) : KI l D (tyW cy) sa yX5_foresee wsX5_foresee rX5_foresee [.ref (h 0), .int a1, .int a2] (zx_W cy h X) z.1 (fun _ => zx_W cy h z.2) 0 0 := by
  unfold zx_foresee at hF
  cases ho : fX5_foresee X.1.day X.1.coins X.1.felts X.1.made X.1.worth X.1.rags X.1.water X.1.pulp X.1.beat X.1.sort X.1.nM X.1.mark X.1.size X.1.worn X.1.nT X.1.skill X.1.vat X.1.pair X.1.nQ X.1.allS X.1.pmark X.1.pgrade X.1.psheets X.1.loft a1 a2 with
  | none =>
    rw [ho] at hF
    cases hF
  | some o =>
    cases o with
    | inr k =>
      rw [ho] at hF
      cases hF
    | inl w =>
      rw [ho] at hF
      cases hF
      exact kX5_foresee l D cy sa h X.1.day X.1.coins X.1.felts X.1.made X.1.worth X.1.rags X.1.water X.1.pulp X.1.beat X.1.sort X.1.nM X.1.mark X.1.size X.1.worn X.1.nT X.1.skill X.1.vat X.1.pair X.1.nQ X.1.allS X.1.pmark X.1.pgrade X.1.psheets X.1.loft X.2.day X.2.coins X.2.felts X.2.made X.2.worth X.2.rags X.2.water X.2.pulp X.2.beat X.2.sort X.2.nM X.2.mark X.2.size X.2.worn X.2.nT X.2.skill X.2.vat X.2.pair X.2.nQ X.2.allS X.2.pmark X.2.pgrade X.2.psheets X.2.loft a1 a2 w ho
def zx_loft (X : XT) (a1 : Int32) (a2 : Int32) : Option (Int32) := match fX5_loft X.1.loft a1 a2 with
  | some (.inl w) => some w
  | _ => none
set_option maxRecDepth 100000 in
set_option maxHeartbeats 4000000 in
theorem kzx_loft (l : Launch) (D : va_G) (cy : Nat → ClassId) (sa : SAT) (h : Nat → Nat) (X : XT) (a1 : Int32) (a2 : Int32) (z : Int32) (hF : zx_loft X a1 a2 = some z) : KI l D (tyW cy) sa yX5_loft wsX5_loft rX5_loft [.ref (h 0), .int a1, .int a2] (zx_W cy h X) z (fun _ => zx_W cy h X) 0 0 := by
  unfold zx_loft at hF
  cases ho : fX5_loft X.1.loft a1 a2 with
  | none =>
    rw [ho] at hF
    cases hF
  | some o =>
    cases o with
    | inr k =>
      rw [ho] at hF
      cases hF
    | inl w =>
      rw [ho] at hF
      cases hF
      exact kX5_loft l D cy sa h X.1.day X.1.coins X.1.felts X.1.made X.1.worth X.1.rags X.1.water X.1.pulp X.1.beat X.1.sort X.1.nM X.1.mark X.1.size X.1.worn X.1.nT X.1.skill X.1.vat X.1.pair X.1.nQ X.1.allS X.1.pmark X.1.pgrade X.1.psheets X.1.loft X.2.day X.2.coins X.2.felts X.2.made X.2.worth X.2.rags X.2.water X.2.pulp X.2.beat X.2.sort X.2.nM X.2.mark X.2.size X.2.worn X.2.nT X.2.skill X.2.vat X.2.pair X.2.nQ X.2.allS X.2.pmark X.2.pgrade X.2.psheets X.2.loft a1 a2 _ ho
def zx_mean (X : XT) : Option (UInt64) := match fX5_mean X.1.nM X.1.worn with
  | some w => some w
  | _ => none
set_option maxRecDepth 100000 in
set_option maxHeartbeats 4000000 in
theorem kzx_mean (l : Launch) (D : va_G) (cy : Nat → ClassId) (sa : SAT) (h : Nat → Nat) (X : XT) (z : UInt64) (hF : zx_mean X = some z) : KD l D (tyW cy) sa yX5_mean wsX5_mean rX5_mean [.ref (h 0)] (zx_W cy h X) z (fun _ => zx_W cy h X) 0 0 := by
  unfold zx_mean at hF
  cases ho : fX5_mean X.1.nM X.1.worn with
  | none =>
    rw [ho] at hF
    cases hF
  | some o =>
    rw [ho] at hF
    cases hF
    exact kX5_mean l D cy sa h X.1.day X.1.coins X.1.felts X.1.made X.1.worth X.1.rags X.1.water X.1.pulp X.1.beat X.1.sort X.1.nM X.1.mark X.1.size X.1.worn X.1.nT X.1.skill X.1.vat X.1.pair X.1.nQ X.1.allS X.1.pmark X.1.pgrade X.1.psheets X.1.loft X.2.day X.2.coins X.2.felts X.2.made X.2.worth X.2.rags X.2.water X.2.pulp X.2.beat X.2.sort X.2.nM X.2.mark X.2.size X.2.worn X.2.nT X.2.skill X.2.vat X.2.pair X.2.nQ X.2.allS X.2.pmark X.2.pgrade X.2.psheets X.2.loft _ ho
def zx_mould (X : XT) (a1 : Int32) (a2 : Int32) : Option (Int32) := match fX5_mould X.1.nM X.1.mark X.1.size X.1.worn X.1.nT X.1.pair a1 a2 with
  | some (.inl w) => some w
  | _ => none
set_option maxRecDepth 100000 in
set_option maxHeartbeats 4000000 in
theorem kzx_mould (l : Launch) (D : va_G) (cy : Nat → ClassId) (sa : SAT) (h : Nat → Nat) (X : XT) (a1 : Int32) (a2 : Int32) (z : Int32) (hF : zx_mould X a1 a2 = some z) : KI l D (tyW cy) sa yX5_mould wsX5_mould rX5_mould [.ref (h 0), .int a1, .int a2] (zx_W cy h X) z (fun _ => zx_W cy h X) 0 0 := by
  unfold zx_mould at hF
  cases ho : fX5_mould X.1.nM X.1.mark X.1.size X.1.worn X.1.nT X.1.pair a1 a2 with
  | none =>
    rw [ho] at hF
    cases hF
  | some o =>
    cases o with
    | inr k =>
      rw [ho] at hF
      cases hF
    | inl w =>
      rw [ho] at hF
      cases hF
      exact kX5_mould l D cy sa h X.1.day X.1.coins X.1.felts X.1.made X.1.worth X.1.rags X.1.water X.1.pulp X.1.beat X.1.sort X.1.nM X.1.mark X.1.size X.1.worn X.1.nT X.1.skill X.1.vat X.1.pair X.1.nQ X.1.allS X.1.pmark X.1.pgrade X.1.psheets X.1.loft X.2.day X.2.coins X.2.felts X.2.made X.2.worth X.2.rags X.2.water X.2.pulp X.2.beat X.2.sort X.2.nM X.2.mark X.2.size X.2.worn X.2.nT X.2.skill X.2.vat X.2.pair X.2.nQ X.2.allS X.2.pmark X.2.pgrade X.2.psheets X.2.loft a1 a2 _ ho
def zx_pair (X : XT) (a1 : Int32) (a2 : Int32) : Option (Int32 × XT) := match fX5_pair X.1.nM X.1.mark X.1.size X.1.worn a1 a2 with
  | some (.inl w) => some (w.1, ((MS.of X.1.day X.1.coins X.1.felts X.1.made X.1.worth X.1.rags X.1.water X.1.pulp X.1.beat X.1.sort w.2.1 w.2.2.1 w.2.2.2.1 w.2.2.2.2 X.1.nT X.1.skill X.1.vat X.1.pair X.1.nQ X.1.allS X.1.pmark X.1.pgrade X.1.psheets X.1.loft), X.2))
  | _ => none
set_option maxRecDepth 100000 in
set_option maxHeartbeats 4000000 in
theorem kzx_pair (l : Launch) (D : va_G) (cy : Nat → ClassId) (sa : SAT) (h : Nat → Nat) (X : XT) (a1 : Int32) (a2 : Int32) (z : Int32 × XT) (hF : zx_pair X a1 a2 = some z) : KI l D (tyW cy) sa yX5_pair wsX5_pair rX5_pair [.ref (h 0), .int a1, .int a2] (zx_W cy h X) z.1 (fun _ => zx_W cy h z.2) 0 0 := by
  unfold zx_pair at hF
  cases ho : fX5_pair X.1.nM X.1.mark X.1.size X.1.worn a1 a2 with
  | none =>
    rw [ho] at hF
    cases hF
  | some o =>
    cases o with
    | inr k =>
      rw [ho] at hF
      cases hF
    | inl w =>
      rw [ho] at hF
      cases hF
      exact kX5_pair l D cy sa h X.1.day X.1.coins X.1.felts X.1.made X.1.worth X.1.rags X.1.water X.1.pulp X.1.beat X.1.sort X.1.nM X.1.mark X.1.size X.1.worn X.1.nT X.1.skill X.1.vat X.1.pair X.1.nQ X.1.allS X.1.pmark X.1.pgrade X.1.psheets X.1.loft X.2.day X.2.coins X.2.felts X.2.made X.2.worth X.2.rags X.2.water X.2.pulp X.2.beat X.2.sort X.2.nM X.2.mark X.2.size X.2.worn X.2.nT X.2.skill X.2.vat X.2.pair X.2.nQ X.2.allS X.2.pmark X.2.pgrade X.2.psheets X.2.loft a1 a2 w ho
def zx_pass (X : XT) (a1 : Int32) : Option (Int32 × XT) := match fX5_pass X.1.day X.1.felts X.1.made X.1.worth X.1.water X.1.pulp X.1.beat X.1.sort X.1.nM X.1.mark X.1.size X.1.worn X.1.nT X.1.skill X.1.vat X.1.pair X.1.nQ X.1.allS X.1.pmark X.1.pgrade X.1.psheets X.1.loft a1 with
  | some (.inl w) => some (w.1, ((MS.of w.2.1 X.1.coins X.1.felts w.2.2.1 w.2.2.2.1 X.1.rags X.1.water w.2.2.2.2.1 w.2.2.2.2.2.1 w.2.2.2.2.2.2.1 X.1.nM X.1.mark X.1.size w.2.2.2.2.2.2.2.1 X.1.nT X.1.skill X.1.vat X.1.pair w.2.2.2.2.2.2.2.2.1 w.2.2.2.2.2.2.2.2.2.1 w.2.2.2.2.2.2.2.2.2.2.1 w.2.2.2.2.2.2.2.2.2.2.2.1 w.2.2.2.2.2.2.2.2.2.2.2.2.1 w.2.2.2.2.2.2.2.2.2.2.2.2.2), X.2))
  | _ => none
set_option maxRecDepth 100000 in
set_option maxHeartbeats 4000000 in
theorem kzx_pass (l : Launch) (D : va_G) (cy : Nat → ClassId) (sa : SAT) (h : Nat → Nat) (X : XT) (a1 : Int32) (z : Int32 × XT) (hF : zx_pass X a1 = some z) : KI l D (tyW cy) sa yX5_pass wsX5_pass rX5_pass [.ref (h 0), .int a1] (zx_W cy h X) z.1 (fun _ => zx_W cy h z.2) 0 0 := by
  unfold zx_pass at hF
  cases ho : fX5_pass X.1.day X.1.felts X.1.made X.1.worth X.1.water X.1.pulp X.1.beat X.1.sort X.1.nM X.1.mark X.1.size X.1.worn X.1.nT X.1.skill X.1.vat X.1.pair X.1.nQ X.1.allS X.1.pmark X.1.pgrade X.1.psheets X.1.loft a1 with
  | none =>
    rw [ho] at hF
    cases hF
  | some o =>
    cases o with
    | inr k =>
      rw [ho] at hF
      cases hF
    | inl w =>
      rw [ho] at hF
      cases hF
      exact kX5_pass l D cy sa h X.1.day X.1.coins X.1.felts X.1.made X.1.worth X.1.rags X.1.water X.1.pulp X.1.beat X.1.sort X.1.nM X.1.mark X.1.size X.1.worn X.1.nT X.1.skill X.1.vat X.1.pair X.1.nQ X.1.allS X.1.pmark X.1.pgrade X.1.psheets X.1.loft X.2.day X.2.coins X.2.felts X.2.made X.2.worth X.2.rags X.2.water X.2.pulp X.2.beat X.2.sort X.2.nM X.2.mark X.2.size X.2.worn X.2.nT X.2.skill X.2.vat X.2.pair X.2.nQ X.2.allS X.2.pmark X.2.pgrade X.2.psheets X.2.loft a1 w ho
def zx_place (X : XT) (a1 : Int32) (a2 : Int32) (a3 : Int32) : Option (Int32 × XT) := match fX5_place X.1.felts X.1.pulp X.1.beat X.1.nM X.1.size X.1.nT X.1.skill X.1.vat X.1.pair X.1.allS a1 a2 a3 with
  | some (.inl w) => some (w.1, ((MS.of X.1.day X.1.coins X.1.felts X.1.made X.1.worth X.1.rags X.1.water X.1.pulp X.1.beat X.1.sort X.1.nM X.1.mark X.1.size X.1.worn X.1.nT X.1.skill w.2.1 w.2.2 X.1.nQ X.1.allS X.1.pmark X.1.pgrade X.1.psheets X.1.loft), X.2))
  | _ => none
set_option maxRecDepth 100000 in
set_option maxHeartbeats 4000000 in
theorem kzx_place (l : Launch) (D : va_G) (cy : Nat → ClassId) (sa : SAT) (h : Nat → Nat) (X : XT) (a1 : Int32) (a2 : Int32) (a3 : Int32) (z : Int32 × XT) (hF : zx_place X a1 a2 a3 = some z) : KI l D (tyW cy) sa yX5_place wsX5_place rX5_place [.ref (h 0), .int a1, .int a2, .int a3] (zx_W cy h X) z.1 (fun _ => zx_W cy h z.2) 0 0 := by
  unfold zx_place at hF
  cases ho : fX5_place X.1.felts X.1.pulp X.1.beat X.1.nM X.1.size X.1.nT X.1.skill X.1.vat X.1.pair X.1.allS a1 a2 a3 with
  | none =>
    rw [ho] at hF
    cases hF
  | some o =>
    cases o with
    | inr k =>
      rw [ho] at hF
      cases hF
    | inl w =>
      rw [ho] at hF
      cases hF
      exact kX5_place l D cy sa h X.1.day X.1.coins X.1.felts X.1.made X.1.worth X.1.rags X.1.water X.1.pulp X.1.beat X.1.sort X.1.nM X.1.mark X.1.size X.1.worn X.1.nT X.1.skill X.1.vat X.1.pair X.1.nQ X.1.allS X.1.pmark X.1.pgrade X.1.psheets X.1.loft X.2.day X.2.coins X.2.felts X.2.made X.2.worth X.2.rags X.2.water X.2.pulp X.2.beat X.2.sort X.2.nM X.2.mark X.2.size X.2.worn X.2.nT X.2.skill X.2.vat X.2.pair X.2.nQ X.2.allS X.2.pmark X.2.pgrade X.2.psheets X.2.loft a1 a2 a3 w ho
def zx_post (X : XT) (a1 : Int32) (a2 : Int32) : Option (Int32) := match fX5_post X.1.nQ X.1.pmark X.1.pgrade X.1.psheets a1 a2 with
  | some (.inl w) => some w
  | _ => none
set_option maxRecDepth 100000 in
set_option maxHeartbeats 4000000 in
theorem kzx_post (l : Launch) (D : va_G) (cy : Nat → ClassId) (sa : SAT) (h : Nat → Nat) (X : XT) (a1 : Int32) (a2 : Int32) (z : Int32) (hF : zx_post X a1 a2 = some z) : KI l D (tyW cy) sa yX5_post wsX5_post rX5_post [.ref (h 0), .int a1, .int a2] (zx_W cy h X) z (fun _ => zx_W cy h X) 0 0 := by
  unfold zx_post at hF
  cases ho : fX5_post X.1.nQ X.1.pmark X.1.pgrade X.1.psheets a1 a2 with
  | none =>
    rw [ho] at hF
    cases hF
  | some o =>
    cases o with
    | inr k =>
      rw [ho] at hF
      cases hF
    | inl w =>
      rw [ho] at hF
      cases hF
      exact kX5_post l D cy sa h X.1.day X.1.coins X.1.felts X.1.made X.1.worth X.1.rags X.1.water X.1.pulp X.1.beat X.1.sort X.1.nM X.1.mark X.1.size X.1.worn X.1.nT X.1.skill X.1.vat X.1.pair X.1.nQ X.1.allS X.1.pmark X.1.pgrade X.1.psheets X.1.loft X.2.day X.2.coins X.2.felts X.2.made X.2.worth X.2.rags X.2.water X.2.pulp X.2.beat X.2.sort X.2.nM X.2.mark X.2.size X.2.worn X.2.nT X.2.skill X.2.vat X.2.pair X.2.nQ X.2.allS X.2.pmark X.2.pgrade X.2.psheets X.2.loft a1 a2 _ ho
def zx_ripe (X : XT) (a1 : Int32) (a2 : Int32) : Option (Int32 × XT) := match fX5_ripe X.1.day X.1.coins X.1.felts X.1.made X.1.worth X.1.rags X.1.water X.1.pulp X.1.beat X.1.sort X.1.nM X.1.mark X.1.size X.1.worn X.1.nT X.1.skill X.1.vat X.1.pair X.1.nQ X.1.allS X.1.pmark X.1.pgrade X.1.psheets X.1.loft a1 a2 with
  | some (.inl w) => some (w.1, (X.1, (MS.of w.2.1 w.2.2.1 w.2.2.2.1 w.2.2.2.2.1 w.2.2.2.2.2.1 w.2.2.2.2.2.2.1 w.2.2.2.2.2.2.2.1 w.2.2.2.2.2.2.2.2.1 w.2.2.2.2.2.2.2.2.2.1 w.2.2.2.2.2.2.2.2.2.2.1 w.2.2.2.2.2.2.2.2.2.2.2.1 w.2.2.2.2.2.2.2.2.2.2.2.2.1 w.2.2.2.2.2.2.2.2.2.2.2.2.2.1 w.2.2.2.2.2.2.2.2.2.2.2.2.2.2.1 w.2.2.2.2.2.2.2.2.2.2.2.2.2.2.2.1 w.2.2.2.2.2.2.2.2.2.2.2.2.2.2.2.2.1 w.2.2.2.2.2.2.2.2.2.2.2.2.2.2.2.2.2.1 w.2.2.2.2.2.2.2.2.2.2.2.2.2.2.2.2.2.2.1 w.2.2.2.2.2.2.2.2.2.2.2.2.2.2.2.2.2.2.2.1 w.2.2.2.2.2.2.2.2.2.2.2.2.2.2.2.2.2.2.2.2.1 w.2.2.2.2.2.2.2.2.2.2.2.2.2.2.2.2.2.2.2.2.2.1 w.2.2.2.2.2.2.2.2.2.2.2.2.2.2.2.2.2.2.2.2.2.2.1 w.2.2.2.2.2.2.2.2.2.2.2.2.2.2.2.2.2.2.2.2.2.2.2.1 w.2.2.2.2.2.2.2.2.2.2.2.2.2.2.2.2.2.2.2.2.2.2.2.2)))
  | _ => none
set_option maxRecDepth 100000 in
set_option maxHeartbeats 4000000 in
theorem kzx_ripe (l : Launch) (D : va_G) (cy : Nat → ClassId) (sa : SAT) (h : Nat → Nat) (X : XT) (a1 : Int32) (a2 : Int32) (z : Int32 × XT) (hF : zx_ripe X a1 a2 = some z) : KI l D (tyW cy) sa yX5_ripe wsX5_ripe rX5_ripe [.ref (h 0), .int a1, .int a2] (zx_W cy h X) z.1 (fun _ => zx_W cy h z.2) 0 0 := by
  unfold zx_ripe at hF
  cases ho : fX5_ripe X.1.day X.1.coins X.1.felts X.1.made X.1.worth X.1.rags X.1.water X.1.pulp X.1.beat X.1.sort X.1.nM X.1.mark X.1.size X.1.worn X.1.nT X.1.skill X.1.vat X.1.pair X.1.nQ X.1.allS X.1.pmark X.1.pgrade X.1.psheets X.1.loft a1 a2 with
  | none =>
    rw [ho] at hF
    cases hF
  | some o =>
    cases o with
    | inr k =>
      rw [ho] at hF
      cases hF
    | inl w =>
      rw [ho] at hF
      cases hF
      exact kX5_ripe l D cy sa h X.1.day X.1.coins X.1.felts X.1.made X.1.worth X.1.rags X.1.water X.1.pulp X.1.beat X.1.sort X.1.nM X.1.mark X.1.size X.1.worn X.1.nT X.1.skill X.1.vat X.1.pair X.1.nQ X.1.allS X.1.pmark X.1.pgrade X.1.psheets X.1.loft X.2.day X.2.coins X.2.felts X.2.made X.2.worth X.2.rags X.2.water X.2.pulp X.2.beat X.2.sort X.2.nM X.2.mark X.2.size X.2.worn X.2.nT X.2.skill X.2.vat X.2.pair X.2.nQ X.2.allS X.2.pmark X.2.pgrade X.2.psheets X.2.loft a1 a2 w ho
def zx_sell (X : XT) (a1 : Int32) (a2 : Int32) (a3 : Int32) : Option (Int32 × XT) := match fX5_sell X.1.coins X.1.loft a1 a2 a3 with
  | some (.inl w) => some (w.1, ((MS.of X.1.day w.2.1 X.1.felts X.1.made X.1.worth X.1.rags X.1.water X.1.pulp X.1.beat X.1.sort X.1.nM X.1.mark X.1.size X.1.worn X.1.nT X.1.skill X.1.vat X.1.pair X.1.nQ X.1.allS X.1.pmark X.1.pgrade X.1.psheets w.2.2), X.2))
  | _ => none
set_option maxRecDepth 100000 in
set_option maxHeartbeats 4000000 in
theorem kzx_sell (l : Launch) (D : va_G) (cy : Nat → ClassId) (sa : SAT) (h : Nat → Nat) (X : XT) (a1 : Int32) (a2 : Int32) (a3 : Int32) (z : Int32 × XT) (hF : zx_sell X a1 a2 a3 = some z) : KI l D (tyW cy) sa yX5_sell wsX5_sell rX5_sell [.ref (h 0), .int a1, .int a2, .int a3] (zx_W cy h X) z.1 (fun _ => zx_W cy h z.2) 0 0 := by
  unfold zx_sell at hF
  cases ho : fX5_sell X.1.coins X.1.loft a1 a2 a3 with
  | none =>
    rw [ho] at hF
    cases hF
  | some o =>
    cases o with
    | inr k =>
      rw [ho] at hF
      cases hF
    | inl w =>
      rw [ho] at hF
      cases hF
      exact kX5_sell l D cy sa h X.1.day X.1.coins X.1.felts X.1.made X.1.worth X.1.rags X.1.water X.1.pulp X.1.beat X.1.sort X.1.nM X.1.mark X.1.size X.1.worn X.1.nT X.1.skill X.1.vat X.1.pair X.1.nQ X.1.allS X.1.pmark X.1.pgrade X.1.psheets X.1.loft X.2.day X.2.coins X.2.felts X.2.made X.2.worth X.2.rags X.2.water X.2.pulp X.2.beat X.2.sort X.2.nM X.2.mark X.2.size X.2.worn X.2.nT X.2.skill X.2.vat X.2.pair X.2.nQ X.2.allS X.2.pmark X.2.pgrade X.2.psheets X.2.loft a1 a2 a3 w ho
def zx_setWater (X : XT) (a1 : Int32) (a2 : Int32) : Option (Int32 × XT) := match fX5_setWater X.1.water a1 a2 with
  | some (.inl w) => some (w.1, ((MS.of X.1.day X.1.coins X.1.felts X.1.made X.1.worth X.1.rags w.2 X.1.pulp X.1.beat X.1.sort X.1.nM X.1.mark X.1.size X.1.worn X.1.nT X.1.skill X.1.vat X.1.pair X.1.nQ X.1.allS X.1.pmark X.1.pgrade X.1.psheets X.1.loft), X.2))
  | _ => none
set_option maxRecDepth 100000 in
set_option maxHeartbeats 4000000 in
theorem kzx_setWater (l : Launch) (D : va_G) (cy : Nat → ClassId) (sa : SAT) (h : Nat → Nat) (X : XT) (a1 : Int32) (a2 : Int32) (z : Int32 × XT) (hF : zx_setWater X a1 a2 = some z) : KI l D (tyW cy) sa yX5_setWater wsX5_setWater rX5_setWater [.ref (h 0), .int a1, .int a2] (zx_W cy h X) z.1 (fun _ => zx_W cy h z.2) 0 0 := by
  unfold zx_setWater at hF
  cases ho : fX5_setWater X.1.water a1 a2 with
  | none =>
    rw [ho] at hF
    cases hF
  | some o =>
    cases o with
    | inr k =>
      rw [ho] at hF
      cases hF
    | inl w =>
      rw [ho] at hF
      cases hF
      exact kX5_setWater l D cy sa h X.1.day X.1.coins X.1.felts X.1.made X.1.worth X.1.rags X.1.water X.1.pulp X.1.beat X.1.sort X.1.nM X.1.mark X.1.size X.1.worn X.1.nT X.1.skill X.1.vat X.1.pair X.1.nQ X.1.allS X.1.pmark X.1.pgrade X.1.psheets X.1.loft X.2.day X.2.coins X.2.felts X.2.made X.2.worth X.2.rags X.2.water X.2.pulp X.2.beat X.2.sort X.2.nM X.2.mark X.2.size X.2.worn X.2.nT X.2.skill X.2.vat X.2.pair X.2.nQ X.2.allS X.2.pmark X.2.pgrade X.2.psheets X.2.loft a1 a2 w ho
def zx_team (X : XT) (a1 : Int32) : Option (Int32 × XT) := match fX5_team X.1.nT X.1.skill X.1.vat X.1.pair a1 with
  | some (.inl w) => some (w.1, ((MS.of X.1.day X.1.coins X.1.felts X.1.made X.1.worth X.1.rags X.1.water X.1.pulp X.1.beat X.1.sort X.1.nM X.1.mark X.1.size X.1.worn w.2.1 w.2.2.1 w.2.2.2.1 w.2.2.2.2 X.1.nQ X.1.allS X.1.pmark X.1.pgrade X.1.psheets X.1.loft), X.2))
  | _ => none
set_option maxRecDepth 100000 in
set_option maxHeartbeats 4000000 in
theorem kzx_team (l : Launch) (D : va_G) (cy : Nat → ClassId) (sa : SAT) (h : Nat → Nat) (X : XT) (a1 : Int32) (z : Int32 × XT) (hF : zx_team X a1 = some z) : KI l D (tyW cy) sa yX5_team wsX5_team rX5_team [.ref (h 0), .int a1] (zx_W cy h X) z.1 (fun _ => zx_W cy h z.2) 0 0 := by
  unfold zx_team at hF
  cases ho : fX5_team X.1.nT X.1.skill X.1.vat X.1.pair a1 with
  | none =>
    rw [ho] at hF
    cases hF
  | some o =>
    cases o with
    | inr k =>
      rw [ho] at hF
      cases hF
    | inl w =>
      rw [ho] at hF
      cases hF
      exact kX5_team l D cy sa h X.1.day X.1.coins X.1.felts X.1.made X.1.worth X.1.rags X.1.water X.1.pulp X.1.beat X.1.sort X.1.nM X.1.mark X.1.size X.1.worn X.1.nT X.1.skill X.1.vat X.1.pair X.1.nQ X.1.allS X.1.pmark X.1.pgrade X.1.psheets X.1.loft X.2.day X.2.coins X.2.felts X.2.made X.2.worth X.2.rags X.2.water X.2.pulp X.2.beat X.2.sort X.2.nM X.2.mark X.2.size X.2.worn X.2.nT X.2.skill X.2.vat X.2.pair X.2.nQ X.2.allS X.2.pmark X.2.pgrade X.2.psheets X.2.loft a1 w ho
def zx_told (X : XT) (a1 : Int32) (a2 : Int32) : Option (Int32) := match fX5_told X.1.felts X.1.pulp X.1.beat X.1.nM X.1.size X.1.nT X.1.skill X.1.vat X.1.pair X.1.allS a1 a2 with
  | some (.inl w) => some w
  | _ => none
set_option maxRecDepth 100000 in
set_option maxHeartbeats 4000000 in
theorem kzx_told (l : Launch) (D : va_G) (cy : Nat → ClassId) (sa : SAT) (h : Nat → Nat) (X : XT) (a1 : Int32) (a2 : Int32) (z : Int32) (hF : zx_told X a1 a2 = some z) : KI l D (tyW cy) sa yX5_told wsX5_told rX5_told [.ref (h 0), .int a1, .int a2] (zx_W cy h X) z (fun _ => zx_W cy h X) 0 0 := by
  unfold zx_told at hF
  cases ho : fX5_told X.1.felts X.1.pulp X.1.beat X.1.nM X.1.size X.1.nT X.1.skill X.1.vat X.1.pair X.1.allS a1 a2 with
  | none =>
    rw [ho] at hF
    cases hF
  | some o =>
    cases o with
    | inr k =>
      rw [ho] at hF
      cases hF
    | inl w =>
      rw [ho] at hF
      cases hF
      exact kX5_told l D cy sa h X.1.day X.1.coins X.1.felts X.1.made X.1.worth X.1.rags X.1.water X.1.pulp X.1.beat X.1.sort X.1.nM X.1.mark X.1.size X.1.worn X.1.nT X.1.skill X.1.vat X.1.pair X.1.nQ X.1.allS X.1.pmark X.1.pgrade X.1.psheets X.1.loft X.2.day X.2.coins X.2.felts X.2.made X.2.worth X.2.rags X.2.water X.2.pulp X.2.beat X.2.sort X.2.nM X.2.mark X.2.size X.2.worn X.2.nT X.2.skill X.2.vat X.2.pair X.2.nQ X.2.allS X.2.pmark X.2.pgrade X.2.psheets X.2.loft a1 a2 _ ho
def zx_wire (X : XT) (a1 : Int32) : Option (Int32 × XT) := match fX5_wire X.1.coins X.1.nM X.1.worn a1 with
  | some (.inl w) => some (w.1, ((MS.of X.1.day w.2.1 X.1.felts X.1.made X.1.worth X.1.rags X.1.water X.1.pulp X.1.beat X.1.sort X.1.nM X.1.mark X.1.size w.2.2 X.1.nT X.1.skill X.1.vat X.1.pair X.1.nQ X.1.allS X.1.pmark X.1.pgrade X.1.psheets X.1.loft), X.2))
  | _ => none
set_option maxRecDepth 100000 in
set_option maxHeartbeats 4000000 in
theorem kzx_wire (l : Launch) (D : va_G) (cy : Nat → ClassId) (sa : SAT) (h : Nat → Nat) (X : XT) (a1 : Int32) (z : Int32 × XT) (hF : zx_wire X a1 = some z) : KI l D (tyW cy) sa yX5_wire wsX5_wire rX5_wire [.ref (h 0), .int a1] (zx_W cy h X) z.1 (fun _ => zx_W cy h z.2) 0 0 := by
  unfold zx_wire at hF
  cases ho : fX5_wire X.1.coins X.1.nM X.1.worn a1 with
  | none =>
    rw [ho] at hF
    cases hF
  | some o =>
    cases o with
    | inr k =>
      rw [ho] at hF
      cases hF
    | inl w =>
      rw [ho] at hF
      cases hF
      exact kX5_wire l D cy sa h X.1.day X.1.coins X.1.felts X.1.made X.1.worth X.1.rags X.1.water X.1.pulp X.1.beat X.1.sort X.1.nM X.1.mark X.1.size X.1.worn X.1.nT X.1.skill X.1.vat X.1.pair X.1.nQ X.1.allS X.1.pmark X.1.pgrade X.1.psheets X.1.loft X.2.day X.2.coins X.2.felts X.2.made X.2.worth X.2.rags X.2.water X.2.pulp X.2.beat X.2.sort X.2.nM X.2.mark X.2.size X.2.worn X.2.nT X.2.skill X.2.vat X.2.pair X.2.nQ X.2.allS X.2.pmark X.2.pgrade X.2.psheets X.2.loft a1 w ho
