/-! PURE SIDE: shift, floor, bounds, repeats -/
section AS
variable {th re wi fl ac dn ma sp da : Int32} {su my ab be : Int64} {w h : Nat}
theorem gs_ok : p_Mod_goes 1 1 1 th (zI w) (zI h) re wi fl ac dn su my ab be ma sp da = some (1, 0) := by rw [q_goes]; rfl
theorem gs_1 (v2 v3 : Int32) : p_Mod_goes 0 v2 v3 th (zI w) (zI h) re wi fl ac dn su my ab be ma sp da = some (0, 1) := by rw [q_goes]; rfl
theorem gs_2 (v3 : Int32) : p_Mod_goes 1 0 v3 th (zI w) (zI h) re wi fl ac dn su my ab be ma sp da = some (0, 2) := by rw [q_goes]; rfl
theorem one0 : ¬ (1 : Int32) = 0 := by decide
theorem in01 : vp_in 0 1 := by unfold vp_in; decide
theorem q_half (a : Int32) : (a = 0 ∨ a = 1 → p_Pic_needHalf a = some (.inr ()) ∧ p_Mod_within a 0 1 = some 1) ∧ (¬ (a = 0 ∨ a = 1) → p_Pic_needHalf a = some (.inl 0) ∧ p_Mod_within a 0 1 = some 0) := by
  obtain ⟨z, rfl, z1, z2⟩ := zI_of a
  have e0 : zI z = 0 ↔ z = 0 := by rw [zl0]; exact zI_eq z1 z2 (by omega) (by omega)
  have e1 : zI z = 1 ↔ z = 1 := by rw [zl1]; exact zI_eq z1 z2 (by omega) (by omega)
  obtain ⟨f1, f2⟩ := q_within (lo := 0) (hi := 1) z1 z2 (by omega) (by omega) (by omega) (by omega)
  rw [← zl0, ← zl1] at f1 f2
  unfold p_Pic_needHalf
  simp only [e0, e1]
  refine ⟨fun hz => ⟨?_, f1 (by omega)⟩, fun hz => ⟨?_, f2 (by omega)⟩⟩
  · rcases hz with h | h
    · rw [if_pos h]
    · rw [if_neg (by omega), if_pos h]
  · rw [if_neg (by omega), if_neg (by omega)]
theorem a_shift (a2 : Int32) {ra rd rx ry ma' md' : Int32} {out : Nat → Int64} (hS : IS ra rd ma' md') :
    ∃ (k : Int32) (out' : Nat → Int64) (r : Int32), p_Law_shift a2 (zI w) (zI h) ra rd rx ry 1 out = some (k, out') ∧ p_Mod_shift a2 th (zI w) (zI h) re wi fl ma' md' su my ab be ma sp da = some (r, k) ∧ (k = 0 → out' 0 = r.toInt64) := by
  obtain ⟨a, d, -, -, -, -, rfl, rfl, rfl, rfl⟩ := hS
  obtain ⟨t, f⟩ := q_half a2
  unfold p_Law_shift p_Pic_shift p_Mod_shift
  by_cases hc : a2 = 0 ∨ a2 = 1
  · obtain ⟨t1, t2⟩ := t hc
    rw [t1, t2]
    simp only [Option.bind_some, gs_ok, one0, if_false]
    by_cases h0 : a2 = 0
    · simp only [h0, if_true, Option.bind_some, pu_gt in01]
      exact ⟨_, _, _, rfl, rfl, fun _ => up0 _ _⟩
    · simp only [h0, if_false, Option.bind_some, pu_gt in01]
      exact ⟨_, _, _, rfl, rfl, fun _ => up0 _ _⟩
  · obtain ⟨t1, t2⟩ := f hc
    rw [t1, t2]
    simp only [Option.bind_some, q_goes]
    exact ⟨1, out, 0, rfl, rfl, fun q => absurd q (by decide)⟩
theorem a_floor (a2 : Int32) {f0 to' be' mf0 : Int32} {out : Nat → Int64} (hf : INf f0 mf0) :
    ∃ (k f1 : Int32) (out' : Nat → Int64) (r mf1 : Int32), p_Law_floor a2 (zI w) (zI h) f0 to' be' 1 out = some (k, f1, out') ∧ p_Mod_floor a2 th (zI w) (zI h) re wi mf0 ac dn su my ab be ma sp da = some (r, k, mf1) ∧ (k = 0 → out' 0 = r.toInt64) ∧ INf f1 mf1 := by
  obtain ⟨v, rfl, v1, v2⟩ := zI_of a2
  obtain ⟨d1, d2⟩ := q_needValue v1 v2
  obtain ⟨f1, f2⟩ := q_within (lo := 0) (hi := 255) v1 v2 (by omega) (by omega) (by omega) (by omega)
  rw [← zl0, ← zl255] at f1 f2
  obtain ⟨f, g1, g2, rfl, rfl⟩ := hf
  unfold p_Law_floor p_Pic_floor p_Mod_floor
  by_cases hv : 0 ≤ v ∧ v ≤ 255
  · rw [d1 hv, f1 hv]
    simp only [Option.bind_some, gs_ok, one0, if_false, pu_gt in01]
    exact ⟨_, _, _, _, _, rfl, rfl, fun _ => up0 _ _, v, hv.1, hv.2, rfl, rfl⟩
  · rw [d2 hv, f2 hv]
    simp only [Option.bind_some, q_goes]
    exact ⟨1, zI f, out, 0, zI f, rfl, rfl, fun q => absurd q (by decide), f, g1, g2, rfl, rfl⟩
def dst (a b : Int) : Int := if a ≤ b then b - a else a - b
theorem dst_abs (a b : Int) : (if 0 ≤ a - b then a - b else -(a - b)) = dst a b := by unfold dst; split <;> split <;> omega
theorem dst_in {a b : Int} (a1 : 0 ≤ a) (a2 : a ≤ 255) (b1 : 0 ≤ b) (b2 : b ≤ 255) : 0 ≤ dst a b ∧ dst a b ≤ 255 := by unfold dst; split <;> omega
theorem q_dabs {a b : Int} (a1 : 0 ≤ a) (a2 : a ≤ 255) (b1 : 0 ≤ b) (b2 : b ≤ 255) : (if 0 ≤ zI a - zI b then zI a - zI b else 0 - (zI a - zI b)) = zI (dst a b) := by
  rw [zI_sub, q_abs (by omega) (by omega), dst_abs]
theorem q_apd {a b : Int} (a1 : -1000000000 ≤ a) (a2 : a ≤ 1000000000) (b1 : -1000000000 ≤ b) (b2 : b ≤ 1000000000) : p_Mod_apart (zI a) (zI b) = some (zI (dst a b)) := q_apart a1 a2 b1 b2
theorem zl999 : (999 : Int32) = zI 999 := by decide
/-- a cell's bound, on both sides -/
theorem b_two (hw : w ≤ 24) (hh : h ≤ 24) {x y : Nat} (hx : x < w) (hy : y < h) {xf mf le gr lo hi : Nat → Int32} {f0 mf0 to' be' : Int32} (hF : IG w h xf mf) (hf : INf f0 mf0) (hr : INr w h le gr lo hi) :
    ∃ bd : Int, 0 ≤ bd ∧ bd ≤ 510 ∧ p_Pic_boundAt (zI x) (zI y) (zI w) (zI h) (w * h) xf f0 to' be' (w * h) le (w * h) gr = some (zI bd) ∧ p_Mod_boundOf (zI ((24 * y + x : Nat) : Int)) th (zI w) (zI h) re wi mf0 ac dn su my ab be ma sp da 576 mf 576 lo 576 hi = some (zI bd) := by
  have hlt := g_lt hx hy
  have hwh := g_wh hw hh
  have i1 : vp_in (zI ((y * w + x : Nat) : Int)) (w * h) := (zI_in (by omega) (by omega)).mpr ⟨by omega, by omega⟩
  have i2 : vp_in (zI ((24 * y + x : Nat) : Int)) 576 := (zI_in (by omega) (by omega)).mpr ⟨by omega, by omega⟩
  have n1 : (zI ((y * w + x : Nat) : Int)).toNatClampNeg = y * w + x := by rw [zI_cl (by omega) (by omega)]; omega
  have n2 : (zI ((24 * y + x : Nat) : Int)).toNatClampNeg = 24 * y + x := by rw [zI_cl (by omega) (by omega)]; omega
  obtain ⟨v, v1, v2, v3, v4⟩ := hF x y hx hy
  obtain ⟨f, g1, g2, rfl, rfl⟩ := hf
  unfold p_Pic_boundAt p_Pic_placeOf p_Noise_boundOf p_Mod_boundOf
  simp only [Option.bind_some, z_pl, pu_gt i1, pu_gt i2, n1, n2, v3, v4]
  rcases hr x y hx hy with ⟨r1, r2, r3, r4⟩ | ⟨p, q, p1, p2, p3, r1, r2, r3, r4⟩
  · refine ⟨f, g1, by omega, ?_, ?_⟩
    · rw [r1, if_pos zlm1.symm]; rfl
    · rw [r3, r4, if_pos zl999.symm, if_pos zlm1.symm]
      simp only [Option.bind_some]
      rw [if_pos (by decide), zl0, zI_add]; congr 2; omega
  · have c1 : ¬ zI p = -1 := by rw [zlm1, zI_eq (by omega) (by omega) (by omega) (by omega)]; omega
    have c2 : ¬ zI p = 999 := by rw [zl999, zI_eq (by omega) (by omega) (by omega) (by omega)]; omega
    have c3 : ¬ zI q = -1 := by rw [zlm1, zI_eq (by omega) (by omega) (by omega) (by omega)]; omega
    obtain ⟨s1, s2⟩ := dst_in p1 (show p ≤ 255 by omega) v1 v2
    obtain ⟨s3, s4⟩ := dst_in (show 0 ≤ q by omega) p3 v1 v2
    rw [r1, r2, r3, r4, if_neg c1, if_neg c2, if_neg c3, q_dabs p1 (by omega) v1 v2, q_dabs (by omega) p3 v1 v2, q_apd (by omega) (by omega) (by omega) (by omega), q_apd (by omega) (by omega) (by omega) (by omega)]
    simp only [Option.bind_some]
    have k1 : zI (dst p v) < zI (dst q v) ↔ dst p v < dst q v := zI_lt (by omega) (by omega) (by omega) (by omega)
    have k2 : zI (dst p v) ≤ zI (dst q v) ↔ dst p v ≤ dst q v := zI_le (by omega) (by omega) (by omega) (by omega)
    simp only [k1, k2]
    by_cases hd : dst p v ≤ dst q v
    · refine ⟨f + dst q v, by omega, by omega, ?_, by rw [if_pos hd, zI_add]⟩
      by_cases he : dst p v < dst q v
      · rw [if_pos he, zI_add]
      · rw [if_neg he, zI_add]; congr 2; omega
    · refine ⟨f + dst p v, by omega, by omega, by rw [if_neg (by omega), zI_add], by rw [if_neg hd, zI_add]⟩
theorem a_bound (hw : w ≤ 24) (hh : h ≤ 24) (a2 a3 : Int32) {xf mf le gr lo hi : Nat → Int32} {f0 mf0 to' be' : Int32} {out : Nat → Int64} (hF : IG w h xf mf) (hf : INf f0 mf0) (hr : INr w h le gr lo hi) :
    ∃ (k : Int32) (out' : Nat → Int64) (r : Int32), p_Law_bound a2 a3 (zI w) (zI h) (w * h) xf f0 to' be' (w * h) le (w * h) gr 1 out = some (k, out') ∧ p_Mod_bound a2 a3 th (zI w) (zI h) re wi mf0 ac dn su my ab be ma sp da 576 mf 576 lo 576 hi = some (r, k) ∧ (k = 0 → out' 0 = r.toInt64) := by
  obtain ⟨a, rfl, a1, b1⟩ := zI_of a2
  obtain ⟨b, rfl, a2, b2⟩ := zI_of a3
  obtain ⟨c1, c2⟩ := q_needCell hw hh a1 b1 a2 b2
  obtain ⟨e1, e2⟩ := @q_isCell th re wi mf0 ac dn ma sp da su my ab be w h hw hh a b a1 b1 a2 b2
  unfold p_Law_bound p_Pic_bound p_Mod_bound
  by_cases hi : inG w h a b
  · rw [c1 hi, e1 hi]
    simp only [Option.bind_some, gs_ok, one0, if_false]
    obtain ⟨x, y, rfl, rfl, hx, hy⟩ := g_xy hi
    obtain ⟨bd, -, -, k1, k2⟩ := @b_two 0 re wi ac dn ma sp da su my ab be w h hw hh x y hx hy xf mf le gr lo _ f0 mf0 to' be' hF hf hr
    rw [k1, zl24, z_pm, k2]
    simp only [Option.bind_some, pu_gt in01]
    exact ⟨_, _, _, rfl, rfl, fun _ => up0 _ _⟩
  · rw [c2 hi, e2 hi]
    simp only [Option.bind_some, q_goes]
    exact ⟨1, out, 0, rfl, rfl, fun q => absurd q (by decide)⟩
/-- a repeat told: least and greatest stay alike -/
theorem a_repeat (hw : w ≤ 24) (hh : h ≤ 24) (a2 a3 a4 : Int32) {xf mf le gr lo hi : Nat → Int32} {f0 mf0 to' be' : Int32} {out : Nat → Int64} (hF : IG w h xf mf) (hf : INf f0 mf0) (hr : INr w h le gr lo hi) :
    ∃ (k t1 c1 : Int32) (le' gr' : Nat → Int32) (out' : Nat → Int64) (r : Int32) (lo' hi' : Nat → Int32), p_Law_repeat a2 a3 a4 (zI w) (zI h) (w * h) xf f0 to' be' (w * h) le (w * h) gr 1 out = some (k, t1, c1, le', gr', out') ∧ p_Mod_repeat a2 a3 a4 th (zI w) (zI h) to' be' mf0 ac dn su my ab be ma sp da 576 mf 576 lo 576 hi = some (r, k, t1, c1, lo', hi') ∧ (k = 0 → out' 0 = r.toInt64) ∧ INr w h le' gr' lo' hi' := by
  obtain ⟨a, rfl, a1, b1⟩ := zI_of a2
  obtain ⟨b, rfl, a2, b2⟩ := zI_of a3
  obtain ⟨v, rfl, a3, b3⟩ := zI_of a4
  obtain ⟨c1, c2⟩ := q_needCell hw hh a1 b1 a2 b2
  obtain ⟨d1, d2⟩ := q_needValue a3 b3
  obtain ⟨e1, e2⟩ := @q_isCell th to' be' mf0 ac dn ma sp da su my ab be w h hw hh a b a1 b1 a2 b2
  obtain ⟨f1, f2⟩ := q_within (lo := 0) (hi := 255) a3 b3 (by omega) (by omega) (by omega) (by omega)
  rw [← zl0, ← zl255] at f1 f2
  unfold p_Law_repeat p_Pic_repeat p_Mod_repeat
  by_cases hin : inG w h a b
  · rw [c1 hin, e1 hin]
    simp only [Option.bind_some]
    by_cases hv : 0 ≤ v ∧ v ≤ 255
    · rw [d1 hv, f1 hv]
      simp only [Option.bind_some, gs_ok, one0, if_false]
      obtain ⟨x, y, rfl, rfl, hx, hy⟩ := g_xy hin
      have hlt := g_lt hx hy
      have hwh := g_wh hw hh
      have i1 : vp_in (zI ((y * w + x : Nat) : Int)) (w * h) := (zI_in (by omega) (by omega)).mpr ⟨by omega, by omega⟩
      have i2 : vp_in (zI ((24 * y + x : Nat) : Int)) 576 := (zI_in (by omega) (by omega)).mpr ⟨by omega, by omega⟩
      have n1 : (zI ((y * w + x : Nat) : Int)).toNatClampNeg = y * w + x := by rw [zI_cl (by omega) (by omega)]; omega
      have n2 : (zI ((24 * y + x : Nat) : Int)).toNatClampNeg = 24 * y + x := by rw [zI_cl (by omega) (by omega)]; omega
      obtain ⟨u, u1, u2, u3, u4⟩ := hF x y hx hy
      obtain ⟨f, g1, g2, rfl, rfl⟩ := id hf
      obtain ⟨s1, s2⟩ := dst_in hv.1 hv.2 u1 u2
      have k0 : zI (dst v u) ≤ zI f ↔ dst v u ≤ f := zI_le (by omega) (by omega) (by omega) (by omega)
      -- the new least and greatest, and both sides' words for them
      have key : ∃ p q : Int, 0 ≤ p ∧ p ≤ q ∧ q ≤ 255 ∧ (if le (y * w + x) = -1 then some (zI v) else some (if zI v < le (y * w + x) then zI v else le (y * w + x))) = some (zI p) ∧ (if gr (y * w + x) < zI v then zI v else gr (y * w + x)) = zI q ∧ (if lo (24 * y + x) ≤ zI v then some (lo (24 * y + x)) else some (zI v)) = some (zI p) ∧ (if zI v ≤ hi (24 * y + x) then some (hi (24 * y + x)) else some (zI v)) = some (zI q) := by
        rcases hr x y hx hy with ⟨r1, r2, r3, r4⟩ | ⟨p, q, p1, p2, p3, r1, r2, r3, r4⟩
        · refine ⟨v, v, hv.1, by omega, hv.2, ?_, ?_, ?_, ?_⟩
          · rw [r1, if_pos zlm1.symm]
          · rw [r2, if_pos ((zI_lt (by omega) (by omega) (by omega) (by omega)).mpr (by omega))]
          · rw [r3, if_neg (by rw [zI_le (by omega) (by omega) (by omega) (by omega)]; omega)]
          · rw [r4, if_neg (by rw [zI_le (by omega) (by omega) (by omega) (by omega)]; omega)]
        · have c1 : ¬ zI p = -1 := by rw [zlm1, zI_eq (by omega) (by omega) (by omega) (by omega)]; omega
          have l1 : zI v < zI p ↔ v < p := zI_lt (by omega) (by omega) (by omega) (by omega)
          have l2 : zI q < zI v ↔ q < v := zI_lt (by omega) (by omega) (by omega) (by omega)
          have l3 : zI p ≤ zI v ↔ p ≤ v := zI_le (by omega) (by omega) (by omega) (by omega)
          have l4 : zI v ≤ zI q ↔ v ≤ q := zI_le (by omega) (by omega) (by omega) (by omega)
          refine ⟨if v < p then v else p, if q < v then v else q, by split <;> omega, by split <;> split <;> omega, by split <;> omega, ?_, ?_, ?_, ?_⟩
          · rw [r1, if_neg c1]; simp only [l1]; split <;> rfl
          · rw [r2]; simp only [l2]; split <;> rfl
          · rw [r3]; simp only [l3]
            by_cases hp : p ≤ v
            · rw [if_pos hp, if_neg (by omega)]
            · rw [if_neg hp, if_pos (by omega)]
          · rw [r4]; simp only [l4]
            by_cases hp : v ≤ q
            · rw [if_pos hp, if_neg (by omega)]
            · rw [if_neg hp, if_pos (by omega)]
      obtain ⟨p, q, p1, p2, p3, m1, m2, m3, m4⟩ := key
      have hr' : INr w h (upd le (y * w + x) (zI p)) (upd gr (y * w + x) (zI q)) (upd lo (24 * y + x) (zI p)) (upd hi (24 * y + x) (zI q)) := by
        intro x' y' hx' hy'
        by_cases e : x' = x ∧ y' = y
        · obtain ⟨rfl, rfl⟩ := e
          exact Or.inr ⟨p, q, p1, p2, p3, pk_us, pk_us, pk_us, pk_us⟩
        · rw [pk_un (fun z => e (g_inj hx' hx z)), pk_un (fun z => e (g_inj hx' hx z)), pk_un (show 24 * y' + x' ≠ 24 * y + x from fun z => e ⟨by omega, by omega⟩), pk_un (show 24 * y' + x' ≠ 24 * y + x from fun z => e ⟨by omega, by omega⟩)]
          exact hr x' y' hx' hy'
      unfold p_Noise_tell p_Pic_placeOf
      simp only [Option.bind_some, zl24, z_pl, z_pm, pu_gt i1, pu_gt i2, n1, n2, u3, u4, m1, m2, m3, m4, q_dabs hv.1 hv.2 u1 u2, q_apd (show -1000000000 ≤ v by omega) (show v ≤ 1000000000 by omega) (show -1000000000 ≤ u by omega) (show u ≤ 1000000000 by omega), k0]
      by_cases hd : dst v u ≤ f
      · obtain ⟨bd, -, -, k1, k2⟩ := @b_two 0 (to' + 1) be' ac dn ma sp da su my ab be w h hw hh x y hx hy xf mf _ _ _ _ (zI f) (zI f) (to' + 1) be' hF ⟨f, g1, g2, rfl, rfl⟩ hr'
        simp only [hd, if_true, Option.bind_some, k1, k2, pu_gt in01]
        exact ⟨_, _, _, _, _, _, _, _, _, rfl, rfl, fun _ => up0 _ _, hr'⟩
      · obtain ⟨bd, -, -, k1, k2⟩ := @b_two 0 (to' + 1) (be' + 1) ac dn ma sp da su my ab be w h hw hh x y hx hy xf mf _ _ _ _ (zI f) (zI f) (to' + 1) (be' + 1) hF ⟨f, g1, g2, rfl, rfl⟩ hr'
        simp only [hd, if_false, Option.bind_some, k1, k2, pu_gt in01]
        exact ⟨_, _, _, _, _, _, _, _, _, rfl, rfl, fun _ => up0 _ _, hr'⟩
    · rw [d2 hv, f2 hv]
      simp only [Option.bind_some, gs_2]
      exact ⟨2, to', be', le, gr, out, 0, lo, hi, rfl, rfl, fun q => absurd q (by decide), hr⟩
  · rw [c2 hin, e2 hin]
    simp only [Option.bind_some]
    obtain ⟨z, hz⟩ : ∃ z, p_Mod_within (zI v) 0 255 = some z := by
      by_cases hv : 0 ≤ v ∧ v ≤ 255
      · exact ⟨_, f1 hv⟩
      · exact ⟨_, f2 hv⟩
    rw [hz]
    simp only [Option.bind_some, gs_1]
    exact ⟨1, to', be', le, gr, out, 0, lo, hi, rfl, rfl, fun q => absurd q (by decide), hr⟩
end AS
