theorem nan_all : ∀ N : Fin 5, ∀ s : Fin 251, FP.ddiv (FP.i2d (nI s.val)) (FP.i2d (nI (N.val + 1))) &&& 0x7fffffffffffffff ≤ 0x7ff0000000000000 := by decide +kernel
theorem nan_ok (s N : Nat) (hs : s ≤ 250) (h0 : 0 < N) (h5 : N ≤ 5) : FP.ddiv (FP.i2d (nI s)) (FP.i2d (nI N)) &&& 0x7fffffffffffffff ≤ 0x7ff0000000000000 := by
  have h := nan_all ⟨N - 1, by omega⟩ ⟨s, by omega⟩
  have e : N - 1 + 1 = N := by omega
  simp only [e] at h
  exact h
theorem dc_all : ∀ N : Fin 5, ∀ s : Fin 251, Op.cmpValue (FP.dcmp (FP.ddiv (FP.i2d (nI s.val)) (FP.i2d (nI (N.val + 1)))) (FP.ddiv (FP.i2d (nI s.val)) (FP.i2d (nI (N.val + 1))))) .l = 0 := by decide +kernel
theorem dc_ok (s N : Nat) (hs : s ≤ 250) (h0 : 0 < N) (h5 : N ≤ 5) : Op.cmpValue (FP.dcmp (FP.ddiv (FP.i2d (nI s)) (FP.i2d (nI N))) (FP.ddiv (FP.i2d (nI s)) (FP.i2d (nI N)))) .l = 0 := by
  have h := dc_all ⟨N - 1, by omega⟩ ⟨s, by omega⟩
  have e : N - 1 + 1 = N := by omega
  simp only [e] at h
  exact h
theorem dc_0 : Op.cmpValue (FP.dcmp FP.dconst0 FP.dconst0) .l = 0 := by decide +kernel
theorem zx_aboutV {X : XT} {v c : Nat} (hv : v < 4) (hc : c < 3) : zx_about X (nI v) (nI c) = some (zl_C X.1 0 v c) := by
  unfold zx_about fX5_about fX4_tell
  rw [show (4 : Int32) = nI 4 from rfl, pb_in hv (by omega), pu_bs, if_neg n10, show (3 : Int32) = nI 3 from rfl, pb_in hc (by omega), pu_bs, if_neg n10]
  rcases c with _ | _ | _ | c
  · rw [if_pos (show nI 0 = 0 from rfl), pb_pulpOf hv]; rfl
  · rw [if_neg (show ¬ nI (0 + 1) = 0 by decide), if_pos (show nI (0 + 1) = 1 from rfl), pb_beatOf hv]; rfl
  · rw [if_neg (show ¬ nI (0 + 1 + 1) = 0 by decide), if_neg (show ¬ nI (0 + 1 + 1) = 1 by decide), pb_sortOf hv]; rfl
  · exact absurd hc (by omega)
theorem zx_mouldV {X : XT} {N q c : Nat} (hN : X.1.nM = nI N) (hq : q < N) (h5 : N ≤ 5) (hc : c < 3) : zx_mould X (nI q) (nI c) = some (zl_C X.1 1 q c) := by
  rcases c with _ | _ | _ | c
  · exact zx_mould_0 hN hq h5
  · exact zx_mould_1 hN hq h5
  · exact zx_mould_2 hN hq h5
  · exact absurd hc (by omega)
theorem zx_toldV {X : XT} {T t c : Nat} (hT : X.1.nT = nI T) (ht : t < T) (h3 : T ≤ 3) (hc : c < 3) : zx_told X (nI t) (nI c) = some (zl_C X.1 2 t c) := by
  rcases c with _ | _ | _ | c
  · exact zx_told_0 hT ht h3
  · exact zx_told_1 hT ht h3
  · exact zx_told_2 hT ht h3
  · exact absurd hc (by omega)
theorem zx_postV {X : XT} {Q j c : Nat} (hQ : X.1.nQ = nI Q) (hj : j < Q) (h9 : Q ≤ 90) (hc : c < 3) : zx_post X (nI j) (nI c) = some (zl_C X.1 3 j c) := by
  unfold zx_post fX5_post fX2_tell
  rw [hQ, pb_has2 hj h9, pu_bs, if_neg n10, show (3 : Int32) = nI 3 from rfl, pb_in hc (by omega), pu_bs, if_neg n10]
  rcases c with _ | _ | _ | c
  · rw [if_pos (show nI 0 = 0 from rfl), pb_qm hj h9]; rfl
  · rw [if_neg (show ¬ nI (0 + 1) = 0 by decide), if_pos (show nI (0 + 1) = 1 from rfl), pb_qg hj h9]; rfl
  · rw [if_neg (show ¬ nI (0 + 1 + 1) = 0 by decide), if_neg (show ¬ nI (0 + 1 + 1) = 1 by decide), pb_qs hj h9]; rfl
  · exact absurd hc (by omega)
theorem zx_loftV {X : XT} {j c : Nat} (hj : j < 10) (hc : c < 3) : zx_loft X (nI j) (nI c) = some (zl_C X.1 4 j c) := by
  unfold zx_loft fX5_loft
  rw [show (10 : Int32) = nI 10 from rfl, pb_in hj (by omega), pu_bs, if_neg n10, show (3 : Int32) = nI 3 from rfl, pb_in hc (by omega), pu_bs, if_neg n10, pb_hanging hj hc]
  rfl
section
variable {D N T F0 : Nat} {l : List pz_PT} {X : XT} {G : FN} {F : Nat → Nat} {p : zs_H} {R : Nat → Nat → Nat} {K : Nat → Option zs_E}
theorem zq_9 (H : zr p F (zl_z N T l.length) R (zl_C X.1) K) {v : Nat} (hv : v < 4) : ∀ (d c k : Nat), c + d = 3 → d < k → fLX6_isSame_9 X F p (nI v) k (nI c) = some ()
  | 0, c, k + 1, hc, _ => by rw [fLX6_isSame_9, if_pos (show (3 : Int32) ≤ nI c by rw [show (3 : Int32) = nI 3 from rfl, pu_le (by omega) (by omega)]; omega)]
  | d + 1, c, k + 1, hc, hk => by
    have e1 : zs_ldr p (F 7) (nI v) = some (R 0 v) := zr_ldr H (k := 0) (by omega) hv (show (4 : Nat) < 2147483648 by decide)
    have e2 : zs_ld p (R 0 v) (nI c) = some (zl_C X.1 0 v c) := zr_ld H (k := 0) (by omega) hv (show c < 3 by omega)
    rw [fLX6_isSame_9, if_neg (show ¬ (3 : Int32) ≤ nI c by rw [show (3 : Int32) = nI 3 from rfl, pu_le (by omega) (by omega)]; omega), zx_aboutV hv (by omega), pu_bs, e1, pu_bs, e2, pu_bs, if_pos rfl, show nI c + 1 = nI (c + 1) from pu_add c 1]
    exact zq_9 H hv d (c + 1) k (by omega) (by omega)
theorem zq_2 (H : zr p F (zl_z N T l.length) R (zl_C X.1) K) : ∀ (d v k : Nat), v + d = 4 → d < k → fLX6_isSame_2 X F p k (nI v) = some ()
  | 0, v, k + 1, hc, _ => by rw [fLX6_isSame_2, if_pos (show (4 : Int32) ≤ nI v by rw [show (4 : Int32) = nI 4 from rfl, pu_le (by omega) (by omega)]; omega)]
  | d + 1, v, k + 1, hc, hk => by
    have e1 : fLX6_isSame_9 X F p (nI v) 300 0 = some () := zq_9 H (show v < 4 by omega) 3 0 300 rfl (by omega)
    rw [fLX6_isSame_2, if_neg (show ¬ (4 : Int32) ≤ nI v by rw [show (4 : Int32) = nI 4 from rfl, pu_le (by omega) (by omega)]; omega), e1, pu_bs, show nI v + 1 = nI (v + 1) from pu_add v 1]
    exact zq_2 H d (v + 1) k (by omega) (by omega)
theorem zq_100 (C : CI D N T F0 l X.1) (H : zr p F (zl_z N T l.length) R (zl_C X.1) K) {v : Nat} (hv : v < N) : ∀ (d c k : Nat), c + d = 3 → d < k → fLX6_isSame_100 X F p (nI v) k (nI c) = some ()
  | 0, c, k + 1, hc, _ => by rw [fLX6_isSame_100, if_pos (show (3 : Int32) ≤ nI c by rw [show (3 : Int32) = nI 3 from rfl, pu_le (by omega) (by omega)]; omega)]
  | d + 1, c, k + 1, hc, hk => by
    have hN := C.Nle
    have e1 : zs_ldr p (F 8) (nI v) = some (R 1 v) := zr_ldr H (k := 1) (by omega) hv (show N < 2147483648 by omega)
    have e2 : zs_ld p (R 1 v) (nI c) = some (zl_C X.1 1 v c) := zr_ld H (k := 1) (by omega) hv (show c < 3 by omega)
    rw [fLX6_isSame_100, if_neg (show ¬ (3 : Int32) ≤ nI c by rw [show (3 : Int32) = nI 3 from rfl, pu_le (by omega) (by omega)]; omega), zx_mouldV C.nM hv hN (by omega), pu_bs, e1, pu_bs, e2, pu_bs, if_pos rfl, show nI c + 1 = nI (c + 1) from pu_add c 1]
    exact zq_100 C H hv d (c + 1) k (by omega) (by omega)
theorem zq_177 (C : CI D N T F0 l X.1) (H : zr p F (zl_z N T l.length) R (zl_C X.1) K) {v : Nat} (hv : v < T) : ∀ (d c k : Nat), c + d = 3 → d < k → fLX6_isSame_177 X F p (nI v) k (nI c) = some ()
  | 0, c, k + 1, hc, _ => by rw [fLX6_isSame_177, if_pos (show (3 : Int32) ≤ nI c by rw [show (3 : Int32) = nI 3 from rfl, pu_le (by omega) (by omega)]; omega)]
  | d + 1, c, k + 1, hc, hk => by
    have hT := C.Tle
    have e1 : zs_ldr p (F 9) (nI v) = some (R 2 v) := zr_ldr H (k := 2) (by omega) hv (show T < 2147483648 by omega)
    have e2 : zs_ld p (R 2 v) (nI c) = some (zl_C X.1 2 v c) := zr_ld H (k := 2) (by omega) hv (show c < 3 by omega)
    rw [fLX6_isSame_177, if_neg (show ¬ (3 : Int32) ≤ nI c by rw [show (3 : Int32) = nI 3 from rfl, pu_le (by omega) (by omega)]; omega), zx_toldV C.nT hv hT (by omega), pu_bs, e1, pu_bs, e2, pu_bs, if_pos rfl, show nI c + 1 = nI (c + 1) from pu_add c 1]
    exact zq_177 C H hv d (c + 1) k (by omega) (by omega)
theorem zq_251 (C : CI D N T F0 l X.1) (H : zr p F (zl_z N T l.length) R (zl_C X.1) K) {v : Nat} (hv : v < l.length) : ∀ (d c k : Nat), c + d = 3 → d < k → fLX6_isSame_251 X F p (nI v) k (nI c) = some ()
  | 0, c, k + 1, hc, _ => by rw [fLX6_isSame_251, if_pos (show (3 : Int32) ≤ nI c by rw [show (3 : Int32) = nI 3 from rfl, pu_le (by omega) (by omega)]; omega)]
  | d + 1, c, k + 1, hc, hk => by
    have h1 := C.len
    have h2 := C.Fle
    have e1 : zs_ldr p (F 10) (nI v) = some (R 3 v) := zr_ldr H (k := 3) (by omega) hv (show l.length < 2147483648 by omega)
    have e2 : zs_ld p (R 3 v) (nI c) = some (zl_C X.1 3 v c) := zr_ld H (k := 3) (by omega) hv (show c < 3 by omega)
    rw [fLX6_isSame_251, if_neg (show ¬ (3 : Int32) ≤ nI c by rw [show (3 : Int32) = nI 3 from rfl, pu_le (by omega) (by omega)]; omega), zx_postV C.nQ hv (by omega) (by omega), pu_bs, e1, pu_bs, e2, pu_bs, if_pos rfl, show nI c + 1 = nI (c + 1) from pu_add c 1]
    exact zq_251 C H hv d (c + 1) k (by omega) (by omega)
theorem zq_239 (C : CI D N T F0 l X.1) (H : zr p F (zl_z N T l.length) R (zl_C X.1) K) : ∀ (d v k : Nat), v + d = l.length → d < k → fLX6_isSame_239 X F p k (nI v) = some ()
  | 0, v, k + 1, hc, _ => by
    have h1 := C.len
    have h2 := C.Fle
    have e0 : zs_len p (F 10) = some (nI l.length) := zr_len H (k := 3) (by omega)
    rw [fLX6_isSame_239, e0, pu_bs, if_pos (by rw [pu_le (by omega) (by omega)]; omega)]
  | d + 1, v, k + 1, hc, hk => by
    have h1 := C.len
    have h2 := C.Fle
    have e0 : zs_len p (F 10) = some (nI l.length) := zr_len H (k := 3) (by omega)
    have e1 : fLX6_isSame_251 X F p (nI v) 300 0 = some () := zq_251 C H (show v < l.length by omega) 3 0 300 rfl (by omega)
    rw [fLX6_isSame_239, e0, pu_bs, if_neg (by rw [pu_le (by omega) (by omega)]; omega), e1, pu_bs, show nI v + 1 = nI (v + 1) from pu_add v 1]
    exact zq_239 C H d (v + 1) k (by omega) (by omega)
theorem zq_301 (H : zr p F (zl_z N T l.length) R (zl_C X.1) K) {v : Nat} (hv : v < 10) : ∀ (d c k : Nat), c + d = 3 → d < k → fLX6_isSame_301 X F p (nI v) k (nI c) = some ()
  | 0, c, k + 1, hc, _ => by rw [fLX6_isSame_301, if_pos (show (3 : Int32) ≤ nI c by rw [show (3 : Int32) = nI 3 from rfl, pu_le (by omega) (by omega)]; omega)]
  | d + 1, c, k + 1, hc, hk => by
    have e1 : zs_ldr p (F 11) (nI v) = some (R 4 v) := zr_ldr H (k := 4) (by omega) hv (show (10 : Nat) < 2147483648 by decide)
    have e2 : zs_ld p (R 4 v) (nI c) = some (zl_C X.1 4 v c) := zr_ld H (k := 4) (by omega) hv (show c < 3 by omega)
    rw [fLX6_isSame_301, if_neg (show ¬ (3 : Int32) ≤ nI c by rw [show (3 : Int32) = nI 3 from rfl, pu_le (by omega) (by omega)]; omega), zx_loftV hv (by omega), pu_bs, e1, pu_bs, e2, pu_bs, if_pos rfl, show nI c + 1 = nI (c + 1) from pu_add c 1]
    exact zq_301 H hv d (c + 1) k (by omega) (by omega)
theorem zq_292 (H : zr p F (zl_z N T l.length) R (zl_C X.1) K) : ∀ (d v k : Nat), v + d = 10 → d < k → fLX6_isSame_292 X F p k (nI v) = some ()
  | 0, v, k + 1, hc, _ => by rw [fLX6_isSame_292, if_pos (show (10 : Int32) ≤ nI v by rw [show (10 : Int32) = nI 10 from rfl, pu_le (by omega) (by omega)]; omega)]
  | d + 1, v, k + 1, hc, hk => by
    have e1 : fLX6_isSame_301 X F p (nI v) 300 0 = some () := zq_301 H (show v < 10 by omega) 3 0 300 rfl (by omega)
    rw [fLX6_isSame_292, if_neg (show ¬ (10 : Int32) ≤ nI v by rw [show (10 : Int32) = nI 10 from rfl, pu_le (by omega) (by omega)]; omega), e1, pu_bs, show nI v + 1 = nI (v + 1) from pu_add v 1]
    exact zq_292 H d (v + 1) k (by omega) (by omega)
theorem zx_told3 (C : CI D N T F0 l X.1) {t : Nat} (ht : t < T) {z : Int32} (h : fX0_sheetsOf X.1.felts X.1.pulp X.1.beat X.1.nM X.1.size X.1.nT X.1.skill X.1.vat X.1.pair X.1.allS (nI t) = some z) : zx_told X (nI t) 3 = some z := by
  unfold zx_told fX5_told fX0_tellTeam
  rw [show fX3_has X.1.nT (nI t) = some 1 by rw [C.nT]; exact pb_has3 ht C.Tle, pu_bs, if_neg n10, show fX5_isBelow (3 : Int32) 4 = some 1 from pb_in (v := 3) (b := 4) (by decide) (by decide), pu_bs, if_neg n10, if_pos (show ((3 : Int32).toInt < 0 ∨ 2 < (3 : Int32).toInt) by decide), h]
  rfl
theorem zq_165 (C : CI D N T F0 l X.1) (H : SR X.1 N T l.length G F p R K) : ∀ (d v k : Nat), v + d = T → d < k → fLX6_isSame_165 X G F p k (nI v) = some ()
  | 0, v, k + 1, hc, _ => by
    have hT := C.Tle
    have e0 : zs_len p (F 9) = some (nI T) := zr_len H.r (k := 2) (by omega)
    rw [fLX6_isSame_165, e0, pu_bs, if_pos (by rw [pu_le (by omega) (by omega)]; omega)]
  | d + 1, v, k + 1, hc, hk => by
    have hT := C.Tle
    have hv : v < T := by omega
    have e0 : zs_len p (F 9) = some (nI T) := zr_len H.r (k := 2) (by omega)
    have e1 : fLX6_isSame_177 X F p (nI v) 300 0 = some () := zq_177 C H.r hv 3 0 300 rfl (by omega)
    have e2 : zs_ldr p (F 9) (nI v) = some (R 2 v) := zr_ldr H.r (k := 2) (by omega) hv (show T < 2147483648 by omega)
    obtain ⟨z, z1, z2⟩ : ∃ z, fX0_sheetsOf X.1.felts X.1.pulp X.1.beat X.1.nM X.1.size X.1.nT X.1.skill X.1.vat X.1.pair X.1.allS (nI v) = some z ∧ fX6_makes G F p (R 2 v) = some z := by
      rcases C.teamT hv with h | ⟨v, q, n, b', s, w, sk, mk, M⟩
      · exact ⟨nI 0, C.idleV hv h, SR.idle C H hv h⟩
      · exact ⟨_, C.sheets M.ht M.hv M.hq M.ev M.ep M.en M.hn M.eb M.hb M.es M.s1 M.s3 M.ek M.k12, SR.makes C H M.ht M.hv M.hq M.ev M.ep M.en M.hn M.eb M.hb M.es M.s1 M.s3 M.ek M.k12⟩
    rw [fLX6_isSame_165, e0, pu_bs, if_neg (by rw [pu_le (by omega) (by omega)]; omega), e1, pu_bs, zx_told3 C hv z1, pu_bs, e2, pu_bs, z2, pu_bs, if_pos rfl, show nI v + 1 = nI (v + 1) from pu_add v 1]
    exact zq_165 C H d (v + 1) k (by omega) (by omega)
theorem zq_64 (C : CI D N T F0 l X.1) (H : zr p F (zl_z N T l.length) R (zl_C X.1) K) {q : Nat} (hq : q < N) : ∀ (d j k k2 : Nat) (x : Int32), j + d = T → d < k → d < k2 → ∃ h, fX3_holderOf_L9 (nI T) X.1.pair (nI q) k (nI j) = some h ∧ fLX6_isSame_64 F p (nI q) k2 x (nI j) = some (if h = -nI 1 then x else h) ∧ (h = -nI 1 ∨ ∃ u, j ≤ u ∧ u < T ∧ X.1.pair u = nI q ∧ h = nI u)
  | 0, j, k + 1, k2 + 1, x, hj, _, _ => by
    have hT := C.Tle
    have e0 : zs_len p (F 9) = some (nI T) := zr_len H (k := 2) (by omega)
    have hle : nI T ≤ nI j := by rw [pu_le (by omega) (by omega)]; omega
    exact ⟨-nI 1, by rw [fX3_holderOf_L9, if_pos hle, pu_m1e], by rw [fLX6_isSame_64, e0, pu_bs, if_pos hle, if_pos rfl], Or.inl rfl⟩
  | d + 1, j, k + 1, k2 + 1, x, hj, hk, hk2 => by
    have hT := C.Tle
    have hN := C.Nle
    have hj2 : j < T := by omega
    have e0 : zs_len p (F 9) = some (nI T) := zr_len H (k := 2) (by omega)
    have hle : ¬ nI T ≤ nI j := by rw [pu_le (by omega) (by omega)]; omega
    have e1 : zs_ldr p (F 9) (nI j) = some (R 2 j) := zr_ldr H (k := 2) (by omega) hj2 (show T < 2147483648 by omega)
    have e2 : zs_ld p (R 2 j) 2 = some (X.1.pair j) := zr_ld H (k := 2) (c := 2) (by omega) hj2 (by decide)
    by_cases c : X.1.pair j = nI q
    · obtain ⟨h, a1, a2, a3⟩ := zq_64 C H hq d (j + 1) k k2 (nI j) (by omega) (by omega) (by omega)
      have hh : h = -nI 1 := by
        refine a3.resolve_right (fun ⟨u, u1, u2, u3, u4⟩ => ?_)
        rcases C.un j u hj2 u2 (c.trans u3.symm) with h | h
        · rw [c] at h
          exact pu_ne1 (by omega) h
        · omega
      refine ⟨nI j, ?_, ?_, Or.inr ⟨j, Nat.le_refl _, hj2, c, rfl⟩⟩
      · rw [fX3_holderOf_L9, if_neg hle, pb_pairOf hj2 hT, pu_bs, if_pos c]
      · rw [fLX6_isSame_64, e0, pu_bs, if_neg hle, e1, pu_bs, e2, pu_bs, if_pos c, pu_bs, show nI j + 1 = nI (j + 1) from pu_add j 1, a2, if_pos hh, if_neg (pu_ne1 (by omega))]
    · obtain ⟨h, a1, a2, a3⟩ := zq_64 C H hq d (j + 1) k k2 x (by omega) (by omega) (by omega)
      refine ⟨h, ?_, ?_, a3.imp id (fun ⟨u, u1, u2⟩ => ⟨u, by omega, u2⟩)⟩
      · rw [fX3_holderOf_L9, if_neg hle, pb_pairOf hj2 hT, pu_bs, if_neg c, show nI j + 1 = nI (j + 1) from pu_add j 1]
        exact a1
      · rw [fLX6_isSame_64, e0, pu_bs, if_neg hle, e1, pu_bs, e2, pu_bs, if_neg c, pu_bs, show nI j + 1 = nI (j + 1) from pu_add j 1]
        exact a2
theorem zq_49 (C : CI D N T F0 l X.1) (H : zr p F (zl_z N T l.length) R (zl_C X.1) K) (hN0 : 0 < N) : ∀ (d j k k2 s : Nat), j + d = N → d < k → d < k2 → s ≤ 50 * j → ∃ W, W ≤ 250 ∧ fLX6_isSame_49 X F p k (nI s) (nI j) = some (nI W) ∧ fX5_mean_L21 (nI N) X.1.worn k2 (nI N) (nI s) (nI j) = some (FP.ddiv (FP.i2d (nI W)) (FP.i2d (nI N)))
  | 0, j, k + 1, k2 + 1, s, hj, _, _, hs => by
    have hN := C.Nle
    have e0 : zs_len p (F 8) = some (nI N) := zr_len H (k := 1) (by omega)
    have hle : nI N ≤ nI j := by rw [pu_le (by omega) (by omega)]; omega
    refine ⟨s, by omega, by rw [fLX6_isSame_49, e0, pu_bs, if_pos hle], ?_⟩
    rw [fX5_mean_L21, if_pos hle]
    exact if_pos (nan_ok s N (by omega) hN0 hN)
  | d + 1, j, k + 1, k2 + 1, s, hj, hk, hk2, hs => by
    have hN := C.Nle
    have hT := C.Tle
    have hj2 : j < N := by omega
    obtain ⟨w, hw, ew⟩ := C.wn j hj2
    have e0 : zs_len p (F 8) = some (nI N) := zr_len H (k := 1) (by omega)
    have hle : ¬ nI N ≤ nI j := by rw [pu_le (by omega) (by omega)]; omega
    have e1 : zs_ldr p (F 8) (nI j) = some (R 1 j) := zr_ldr H (k := 1) (by omega) hj2 (show N < 2147483648 by omega)
    have e2 : zs_ld p (R 1 j) 2 = some (nI w) := (zr_ld H (k := 1) (c := 2) (by omega) hj2 (by decide)).trans (congrArg some ew)
    obtain ⟨h, h1, h2, h3⟩ := zq_64 C H hj2 T 0 300 300 (-1) (Nat.zero_add _) (by omega) (by omega)
    have h2' : fLX6_isSame_64 F p (nI j) 300 (-1) 0 = some h := by
      refine h2.trans (congrArg some ?_)
      by_cases c : h = -nI 1
      · rw [if_pos c, c, pu_m1e]
      · rw [if_neg c]
    have e3 : fLX6_isSame_100 X F p (nI j) 300 0 = some () := zq_100 C H hj2 3 0 300 rfl (by omega)
    have e4 : zx_mould X (nI j) 3 = some h := by
      have h1' : fX3_holderOf_L9 (nI T) X.1.pair (nI j) 300 0 = some h := h1
      unfold zx_mould fX5_mould fX0_tellPair fX3_holderOf
      rw [C.nM, pb_has1 hj2 hN, pu_bs, if_neg n10, show fX5_isBelow (3 : Int32) 4 = some 1 from pb_in (v := 3) (b := 4) (by decide) (by decide), pu_bs, if_neg n10, if_pos (show ((3 : Int32).toInt < 0 ∨ 2 < (3 : Int32).toInt) by decide), if_neg (show ¬ nI j = -1 by rw [pu_m1e]; exact pu_ne1 (by omega)), C.nT, h1']
      rfl
    obtain ⟨W, W0, W1, W2⟩ := zq_49 C H hN0 d (j + 1) k k2 (s + w) (by omega) (by omega) (by omega) (by omega)
    refine ⟨W, W0, ?_, ?_⟩
    · rw [fLX6_isSame_49, e0, pu_bs, if_neg hle, h2', pu_bs, e3, pu_bs, e4, pu_bs, if_pos rfl, e1, pu_bs, e2, pu_bs, pu_add, show nI j + 1 = nI (j + 1) from pu_add j 1]
      exact W1
    · rw [fX5_mean_L21, if_neg hle, pb_wornOf hj2 hN, pu_bs, ew, pu_add, show nI j + 1 = nI (j + 1) from pu_add j 1]
      exact W2
theorem zq_342 (C : CI D N T F0 l X.1) : ∀ (d c k : Nat) (p : zs_H), SR X.1 N T l.length G F p R K → c + d = 12 → d < k → ∃ p2, fLX6_isSame_342 X G F k p (nI c) = some p2 ∧ SR X.1 N T l.length G F p2 R K
  | 0, c, k + 1, p, H, hc, _ => ⟨p, by rw [fLX6_isSame_342, if_pos (show (12 : Int32) ≤ nI c by rw [show (12 : Int32) = nI 12 from rfl, pu_le (by omega) (by omega)]; omega)], H⟩
  | d + 1, c, k + 1, p, H, hc, hk => by
    obtain ⟨s, u, s1, u1, h⟩ := zl_told C H
    obtain ⟨p2, e1, H2⟩ := h c (by omega)
    obtain ⟨p3, e3, H3⟩ := zq_342 C d (c + 1) k p2 H2 (by omega) (by omega)
    refine ⟨p3, ?_, H3⟩
    rw [fLX6_isSame_342, if_neg (show ¬ (12 : Int32) ≤ nI c by rw [show (12 : Int32) = nI 12 from rfl, pu_le (by omega) (by omega)]; omega), zx_countV s1 u1 (by omega), pu_bs, e1, pu_bs]
    dsimp only
    rw [if_pos rfl, show nI c + 1 = nI (c + 1) from pu_add c 1]
    exact e3
end
theorem zl_same {A D : Nat} {X : XT} {G : FN} {F : Nat → Nat} {p : zs_H} (I : zl_INV A D X G F p) : ∃ p2, fX6_isSame X G F p = some p2 := by
  obtain ⟨N, T, F0, c, l, R, C, H, hc, hcb, hr⟩ := I
  have hN := C.Nle
  have hT := C.Tle
  have h1 := C.len
  have h2 := C.Fle
  have a1 : fLX6_isSame_2 X F p 300 0 = some () := zq_2 H.r 4 0 300 rfl (by omega)
  have a2 : fLX6_isSame_165 X G F p 300 0 = some () := zq_165 C H T 0 300 (Nat.zero_add _) (by omega)
  have a3 : fLX6_isSame_239 X F p 300 0 = some () := zq_239 C H.r l.length 0 300 (Nat.zero_add _) (by omega)
  have a4 : fLX6_isSame_292 X F p 300 0 = some () := zq_292 H.r 10 0 300 rfl (by omega)
  obtain ⟨p2, a5, H2⟩ := zq_342 C 12 0 13 p H rfl (by omega)
  have a5' : fLX6_isSame_342 X G F 13 p 0 = some p2 := a5
  have e8 : zs_len p2 (F 8) = some (nI N) := zr_len H2.r (k := 1) (by omega)
  unfold fX6_isSame
  by_cases c0 : N = 0
  · subst c0
    have b1 : fLX6_isSame_49 X F p 300 0 0 = some 0 := by
      have e0 : zs_len p (F 8) = some (nI 0) := zr_len H.r (k := 1) (by omega)
      rw [fLX6_isSame_49, e0, pu_bs, if_pos (show nI 0 ≤ 0 by decide)]
    have b2 : zx_mean X = some FP.dconst0 := by
      unfold zx_mean fX5_mean
      rw [C.nM, if_pos (show nI 0 = 0 from rfl)]
    refine ⟨p2, ?_⟩
    rw [a1, pu_bs, b1, pu_bs, a2, pu_bs, a3, pu_bs, a4, pu_bs, a5', pu_bs, b2, pu_bs, e8, pu_bs, if_pos (show nI 0 = 0 from rfl), pu_bs, if_pos dc_0]
  · obtain ⟨W, W0, W1, W2⟩ := zq_49 C H.r (by omega) N 0 300 300 0 (Nat.zero_add _) (by omega) (by omega) (by omega)
    have b1 : fLX6_isSame_49 X F p 300 0 0 = some (nI W) := W1
    have n0 : ¬ nI N = 0 := pu_ne (a := N) (b := 0) c0 (by omega) (by omega)
    have b2 : zx_mean X = some (FP.ddiv (FP.i2d (nI W)) (FP.i2d (nI N))) := by
      have W2' : fX5_mean_L21 (nI N) X.1.worn 300 (nI N) 0 0 = some (FP.ddiv (FP.i2d (nI W)) (FP.i2d (nI N))) := W2
      unfold zx_mean fX5_mean
      rw [C.nM, if_neg n0, W2']
    have b3 : ckN (FP.i2d (nI W)) (FP.i2d (nI N)) (some (FP.ddiv (FP.i2d (nI W)) (FP.i2d (nI N)))) = some (FP.ddiv (FP.i2d (nI W)) (FP.i2d (nI N))) := if_pos (nan_ok W N W0 (by omega) hN)
    refine ⟨p2, ?_⟩
    rw [a1, pu_bs, b1, pu_bs, a2, pu_bs, a3, pu_bs, a4, pu_bs, a5', pu_bs, b2, pu_bs, e8, pu_bs, if_neg n0, pu_bs, b3, pu_bs, if_pos (dc_ok W N W0 (by omega) hN)]
