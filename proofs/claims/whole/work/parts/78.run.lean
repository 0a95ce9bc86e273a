/-! PURE SIDE: a run: marks, then spots, on both sides -/
section AQ
variable {w h : Nat}
theorem b_all (hw : w ≤ 24) (hh : h ≤ 24) {x y : Nat} (hx : x < w) (hy : y < h) {xf mf le gr' lo hi : Nat → Int32} {f0 mf0 to' be' : Int32} (hF : IG w h xf mf) (hf : INf f0 mf0) (hr : INr w h le gr' lo hi) :
    ∃ bd : Int, 0 ≤ bd ∧ bd ≤ 510 ∧ p_Pic_boundAt (zI x) (zI y) (zI w) (zI h) (w * h) xf f0 to' be' (w * h) le (w * h) gr' = some (zI bd) ∧ ∀ th re wi ac dn ma sp da su my ab be, p_Mod_boundOf (zI ((24 * y + x : Nat) : Int)) th (zI w) (zI h) re wi mf0 ac dn su my ab be ma sp da 576 mf 576 lo 576 hi = some (zI bd) := by
  obtain ⟨bd, b1, b2, b3, -⟩ := @b_two 0 0 0 0 0 0 0 0 0 0 0 0 w h hw hh x y hx hy xf mf le gr' lo hi f0 mf0 to' be' hF hf hr
  refine ⟨bd, b1, b2, b3, fun th re wi ac dn ma sp da su my ab be => ?_⟩
  obtain ⟨bd', c1, c2, c3, c4⟩ := @b_two th re wi ac dn ma sp da su my ab be w h hw hh x y hx hy xf mf le gr' lo hi f0 mf0 to' be' hF hf hr
  rw [b3] at c3
  rw [c4, ← Option.some.inj c3]
theorem k_clear {sw sh sj sf mk : Int32} {s : Nat → Int32} {n : Nat} (hn : n ≤ 576) : ∃ s', p_Spots_clear sw sh sj sf mk n s = some (0, 0, s') ∧ ∀ j, j < n → s' j = -1 := by
  have := pu_for (f := p_Spots_clear_L1 n) (σ := Nat → Int32) (fun k s => (zI (k : Int), s)) (fun k s => ∀ j, j < k → s j = -1) (fun e => ∃ z s', e = (z, s') ∧ ∀ j, j < n → s' j = -1) n (by
    intro k s hk hI
    refine Or.inl ⟨upd s k (-1), ?_, fun j hj => ?_⟩
    · unfold p_Spots_clear_L1
      dsimp only
      rw [show Int32.ofNat n = zI (n : Int) from zI_nat n, if_neg (by rw [zn_le (by omega) (by omega)]; omega), pu_gt ((zn_in (by omega)).mpr hk), zn_cl (by omega), zI_s]
    · by_cases ej : j = k
      · subst ej; exact pk_us
      · rw [pk_un ej]; exact hI j (by omega)) (by
    intro s hI
    refine ⟨_, ?_, zI (n : Int), s, rfl, hI⟩
    unfold p_Spots_clear_L1
    dsimp only
    rw [show Int32.ofNat n = zI (n : Int) from zI_nat n, if_pos (by rw [zn_le (by omega) (by omega)]; omega)]) (k0 := 0) (s0 := s) (by omega) (fun j hj => by omega)
  obtain ⟨e, h1, z, s', rfl, h2⟩ := this
  have h1' : pu_loop (p_Spots_clear_L1 n) (0, s) = some (z, s') := h1
  unfold p_Spots_clear
  rw [h1']
  exact ⟨s', rfl, h2⟩
variable {dk : Nat → Prop} {Cg Bd : Nat → Int}
def MK (w h : Nat) (dk : Nat → Prop) (Cg : Nat → Int) (Q : Nat) (s ch : Nat → Int32) : Prop := ∀ p, gr w h p → (p < Q ∧ dk p → sv w s p = -2 ∧ sv w ch p = zI (Cg p)) ∧ (¬ (p < Q ∧ dk p) → sv w s p = -1)
noncomputable def mc (dk : Nat → Prop) (Q : Nat) : Int := sm (fun p => ic (dk p)) Q
theorem mc_t {Q : Nat} (h : dk Q) : mc dk (Q + 1) = mc dk Q + 1 := by
  show sm _ Q + ic (dk Q) = _
  rw [ic_t h]
  rfl
theorem mc_f {Q : Nat} (h : ¬ dk Q) : mc dk (Q + 1) = mc dk Q := by
  show sm _ Q + ic (dk Q) = _
  rw [ic_f h]
  show sm _ Q + 0 = sm _ Q
  omega
theorem mc_cut {m n : Nat} (hmn : m ≤ n) (hz : ∀ k, m ≤ k → k < n → ¬ dk k) : mc dk n = mc dk m := sm_cut hmn (fun k a b => ic_f (hz k a b))
theorem MK_c {m n : Nat} {s ch : Nat → Int32} (hmn : m ≤ n) (hz : ∀ k, m ≤ k → k < n → ¬ dk k) (hM : MK w h dk Cg m s ch) : MK w h dk Cg n s ch := by
  intro p hp
  obtain ⟨a, b⟩ := hM p hp
  refine ⟨fun ⟨h1, h2⟩ => a ⟨?_, h2⟩, fun hn => b (fun ⟨h1, h2⟩ => hn ⟨by omega, h2⟩)⟩
  apply Classical.byContradiction
  intro hlt
  exact hz p (by omega) h1 h2
section C
variable {xf xl le gr' : Nat → Int32} {ra rd rx ry f0 to' be' sj u0 : Int32} {A B : Int64}
theorem k_mark (hw : w ≤ 24) (hh : h ≤ 24) (hd : ∀ p, dk p ↔ gr w h p ∧ Bd p < Cg p) (hC : ∀ x y : Nat, x < w → y < h → 0 ≤ Cg (24 * y + x) ∧ Cg (24 * y + x) ≤ 1000000000 ∧ p_Pic_changeAt (zI x) (zI y) (zI w) (zI h) (w * h) xf (w * h) xl ra rd rx ry A B = some (zI (Cg (24 * y + x)))) (hB : ∀ x y : Nat, x < w → y < h → 0 ≤ Bd (24 * y + x) ∧ Bd (24 * y + x) ≤ 510 ∧ p_Pic_boundAt (zI x) (zI y) (zI w) (zI h) (w * h) xf f0 to' be' (w * h) le (w * h) gr' = some (zI (Bd (24 * y + x)))) {x y : Nat} (hx : x < w) (hy : y < h) {s ch : Nat → Int32} (hM : MK w h dk Cg (24 * y + x) s ch) :
    ∃ s' ch', p_Pic_run_L8 (zI w) (zI h) (w * h) xf (w * h) xl ra rd rx ry f0 to' be' (w * h) le (w * h) gr' (zI w) (zI h) sj (w * h) (w * h) A B u0 (zI y) (zI x, zI (mc dk (24 * y + x)), s, ch) = some (.inl (zI ((x + 1 : Nat) : Int), zI (mc dk (24 * y + (x + 1))), s', ch')) ∧ MK w h dk Cg (24 * y + (x + 1)) s' ch' := by
  have hwh := g_wh hw hh
  have hlt := g_lt hx hy
  obtain ⟨c1, c2, c3⟩ := hC x y hx hy
  obtain ⟨b1, b2, b3⟩ := hB x y hx hy
  have hg : gr w h (24 * y + x) := by unfold gr; omega
  have m1 : (24 * y + x) % 24 = x := by omega
  have m2 : (24 * y + x) / 24 = y := by omega
  unfold p_Pic_run_L8
  dsimp only
  rw [if_neg (by rw [zn_le (by omega) (by omega)]; omega), c3, b3]
  simp only [Option.bind_some, zI_le (show -2147483648 ≤ Cg (24 * y + x) by omega) (show Cg (24 * y + x) ≤ 2147483647 by omega) (show -2147483648 ≤ Bd (24 * y + x) by omega) (show Bd (24 * y + x) ≤ 2147483647 by omega), zI_s]
  rw [show 24 * y + (x + 1) = 24 * y + x + 1 by omega]
  generalize hQ : 24 * y + x = Q at *
  by_cases hc : Cg Q ≤ Bd Q
  · have hn : ¬ dk Q := fun z => by have := ((hd Q).mp z).2; omega
    rw [if_pos hc, mc_f hn]
    exact ⟨s, ch, rfl, MK_c (by omega) (fun k a b => by rw [show k = Q by omega]; exact hn) hM⟩
  · have hk : dk Q := (hd Q).mpr ⟨hg, by omega⟩
    rw [if_neg hc, mc_t hk]
    unfold p_Spots_mark
    rw [z_pl, pu_gt ((zn_in (by omega)).mpr hlt), pu_gt ((zn_in (by omega)).mpr hlt), zn_cl (by omega)]
    simp only [Option.bind_some]
    rw [← m1, ← m2, zl1, zI_add]
    refine ⟨_, _, rfl, fun p hp => ?_⟩
    by_cases ep : p = Q
    · subst ep
      exact ⟨fun _ => ⟨sv_us, sv_us⟩, fun z => absurd ⟨by omega, hk⟩ z⟩
    · rw [sv_un hg hp ep, sv_un hg hp ep]
      obtain ⟨a, b⟩ := hM p hp
      exact ⟨fun z => a ⟨by omega, z.2⟩, fun z => b (fun z' => z ⟨by omega, z'.2⟩)⟩
theorem k_marks (hw : w ≤ 24) (hh : h ≤ 24) (hd : ∀ p, dk p ↔ gr w h p ∧ Bd p < Cg p) (hC : ∀ x y : Nat, x < w → y < h → 0 ≤ Cg (24 * y + x) ∧ Cg (24 * y + x) ≤ 1000000000 ∧ p_Pic_changeAt (zI x) (zI y) (zI w) (zI h) (w * h) xf (w * h) xl ra rd rx ry A B = some (zI (Cg (24 * y + x)))) (hB : ∀ x y : Nat, x < w → y < h → 0 ≤ Bd (24 * y + x) ∧ Bd (24 * y + x) ≤ 510 ∧ p_Pic_boundAt (zI x) (zI y) (zI w) (zI h) (w * h) xf f0 to' be' (w * h) le (w * h) gr' = some (zI (Bd (24 * y + x)))) {s ch : Nat → Int32} (hs : ∀ j, j < w * h → s j = -1) :
    ∃ z s' ch', pu_loop (p_Pic_run_L3 (zI w) (zI h) (w * h) xf (w * h) xl ra rd rx ry f0 to' be' (w * h) le (w * h) gr' (zI w) (zI h) sj (w * h) (w * h) A B u0) (0, 0, s, ch) = some (z, zI (mc dk 576), s', ch') ∧ MK w h dk Cg 576 s' ch' := by
  have hlast : ∀ y, y < h → ∀ k, 24 * y + w ≤ k → k < 24 * (y + 1) → ¬ dk k := fun y hy k a b hr => by
    have := ((hd k).mp hr).1
    unfold gr at this
    omega
  have hend : ∀ k, 24 * h ≤ k → k < 576 → ¬ dk k := fun k a b hr => by
    have := ((hd k).mp hr).1
    unfold gr at this
    omega
  have := pu_for (f := p_Pic_run_L3 (zI w) (zI h) (w * h) xf (w * h) xl ra rd rx ry f0 to' be' (w * h) le (w * h) gr' (zI w) (zI h) sj (w * h) (w * h) A B u0) (σ := (Nat → Int32) × (Nat → Int32)) (fun y q => (zI (y : Int), zI (mc dk (24 * y)), q.1, q.2)) (fun y q => MK w h dk Cg (24 * y) q.1 q.2) (fun e => ∃ z s' ch', e = (z, zI (mc dk 576), s', ch') ∧ MK w h dk Cg 576 s' ch') h (by
    rintro y ⟨s, ch⟩ hy hM
    dsimp only at hM ⊢
    have := pu_for (f := p_Pic_run_L8 (zI w) (zI h) (w * h) xf (w * h) xl ra rd rx ry f0 to' be' (w * h) le (w * h) gr' (zI w) (zI h) sj (w * h) (w * h) A B u0 (zI y)) (σ := (Nat → Int32) × (Nat → Int32)) (fun x q => (zI (x : Int), zI (mc dk (24 * y + x)), q.1, q.2)) (fun x q => MK w h dk Cg (24 * y + x) q.1 q.2) (fun e => ∃ z s' ch', e = (z, zI (mc dk (24 * y + w)), s', ch') ∧ MK w h dk Cg (24 * y + w) s' ch') w (by
      rintro x ⟨s, ch⟩ hx hM
      obtain ⟨s', ch', a1, a2⟩ := k_mark (sj := sj) (u0 := u0) hw hh hd hC hB hx hy hM
      exact Or.inl ⟨(s', ch'), a1, a2⟩) (by
      rintro ⟨s, ch⟩ hM
      unfold p_Pic_run_L8
      dsimp only
      rw [if_pos (by rw [zn_le (by omega) (by omega)]; omega)]
      exact ⟨_, rfl, _, s, ch, rfl, hM⟩) (k0 := 0) (s0 := (s, ch)) (by omega) hM
    obtain ⟨e, h1, z, s', ch', rfl, h2⟩ := this
    have h1' : pu_loop (p_Pic_run_L8 (zI w) (zI h) (w * h) xf (w * h) xl ra rd rx ry f0 to' be' (w * h) le (w * h) gr' (zI w) (zI h) sj (w * h) (w * h) A B u0 (zI y)) (0, zI (mc dk (24 * y)), s, ch) = some (z, zI (mc dk (24 * y + w)), s', ch') := h1
    refine Or.inl ⟨(s', ch'), ?_, MK_c (by omega) (hlast y hy) h2⟩
    unfold p_Pic_run_L3
    dsimp only
    rw [if_neg (by rw [zn_le (by omega) (by omega)]; omega), h1']
    simp only [Option.bind_some, zI_s]
    rw [mc_cut (show 24 * y + w ≤ 24 * (y + 1) by omega) (hlast y hy)]) (by
    rintro ⟨s, ch⟩ hM
    unfold p_Pic_run_L3
    dsimp only at hM ⊢
    rw [if_pos (by rw [zn_le (by omega) (by omega)]; omega)]
    refine ⟨_, rfl, zI (h : Int), s, ch, ?_, MK_c (by omega) hend hM⟩
    rw [mc_cut (show 24 * h ≤ 576 by omega) hend]) (k0 := 0) (s0 := (s, ch)) (by omega) (fun p hp => ⟨fun z => by omega, fun _ => by
      unfold gr at hp
      exact hs _ (g_lt hp.1 hp.2)⟩)
  obtain ⟨e, h1, z, s', ch', rfl, h2⟩ := this
  exact ⟨z, s', ch', h1, h2⟩
end C
section D
variable {re wi mf0 ac dn sp da : Int32} {su my A B : Int64} {mf ml lo hi : Nat → Int32}
theorem m_marks (hw : w ≤ 24) (hh : h ≤ 24) (hd : ∀ p, dk p ↔ gr w h p ∧ Bd p < Cg p) (hC : ∀ x y : Nat, x < w → y < h → 0 ≤ Cg (24 * y + x) ∧ Cg (24 * y + x) ≤ 1000000000 ∧ ∀ th re wi fl su my ma sp da, p_Mod_changeOf (zI ((24 * y + x : Nat) : Int)) th (zI w) (zI h) re wi fl ac dn su my A B ma sp da 576 mf 576 ml = some (zI (Cg (24 * y + x)))) (hB : ∀ x y : Nat, x < w → y < h → 0 ≤ Bd (24 * y + x) ∧ Bd (24 * y + x) ≤ 510 ∧ ∀ th re wi ac dn ma sp da su my ab be, p_Mod_boundOf (zI ((24 * y + x : Nat) : Int)) th (zI w) (zI h) re wi mf0 ac dn su my ab be ma sp da 576 mf 576 lo 576 hi = some (zI (Bd (24 * y + x)))) {fs ch : Nat → Int32} :
    ∃ z fs' ch', pu_loop (p_Mod_run_L2 (zI w) (zI h) re wi mf0 ac dn su my sp da 576 mf 576 ml 576 lo 576 hi 576 576 A B) (0, 0, fs, ch) = some (z, zI (mc dk 576), fs', ch') ∧ (∀ k, k < 576 → (dk k → fs' k = zI (k : Int) ∧ ch' k = zI (Cg k)) ∧ (¬ dk k → fs' k = -1)) := by
  have := pu_for (f := p_Mod_run_L2 (zI w) (zI h) re wi mf0 ac dn su my sp da 576 mf 576 ml 576 lo 576 hi 576 576 A B) (σ := (Nat → Int32) × (Nat → Int32)) (fun k q => (zI (k : Int), zI (mc dk k), q.1, q.2)) (fun K q => ∀ k, k < K → (dk k → q.1 k = zI (k : Int) ∧ q.2 k = zI (Cg k)) ∧ (¬ dk k → q.1 k = -1)) (fun e => ∃ z fs' ch', e = (z, zI (mc dk 576), fs', ch') ∧ (∀ k, k < 576 → (dk k → fs' k = zI (k : Int) ∧ ch' k = zI (Cg k)) ∧ (¬ dk k → fs' k = -1))) 576 (by
    rintro k ⟨fs, ch⟩ hk hI
    dsimp only at hI ⊢
    refine Or.inl ?_
    unfold p_Mod_run_L2
    dsimp only
    obtain ⟨t, f'⟩ := @q_isPlace 0 re wi mf0 ac dn (zI (mc dk k)) sp da su my A B w h hw hh (k : Int) (by omega) (by omega)
    rw [if_neg (by rw [zl576, zn_le (by omega) (by omega)]; omega)]
    by_cases hg : gr w h k
    · have hg' := hg
      unfold gr at hg'
      obtain ⟨c1, c2, c3⟩ := hC (k % 24) (k / 24) hg'.1 hg'.2
      obtain ⟨b1, b2, b3⟩ := hB (k % 24) (k / 24) hg'.1 hg'.2
      rw [show 24 * (k / 24) + k % 24 = k by omega] at c1 c2 c3 b1 b2 b3
      rw [t (by unfold inG; omega)]
      simp only [Option.bind_some, one0, if_false, c3, b3, pu_gt ((zn_in (show k ≤ 1000000 by omega)).mpr hk), zn_cl (show k ≤ 1000000 by omega), pk_us, zI_le (show -2147483648 ≤ Cg k by omega) (show Cg k ≤ 2147483647 by omega) (show -2147483648 ≤ Bd k by omega) (show Bd k ≤ 2147483647 by omega), zI_s]
      by_cases hc : Cg k ≤ Bd k
      · have hn : ¬ dk k := fun z => by have := ((hd k).mp z).2; omega
        rw [if_pos hc]
        simp only [Option.bind_some, pk_us, if_true, mc_f hn]
        refine ⟨(upd fs k (-1), upd ch k (zI (Cg k))), rfl, fun j hj => ?_⟩
        dsimp only
        by_cases ej : j = k
        · subst ej
          exact ⟨fun z => absurd z hn, fun _ => pk_us⟩
        · rw [pk_un ej, pk_un ej]; exact hI j (by omega)
      · have hdk : dk k := (hd k).mpr ⟨hg, by omega⟩
        rw [if_neg hc]
        simp only [Option.bind_some, pk_us, zF1 (show k ≤ 1000 by omega), if_false, mc_t hdk]
        rw [zl1, zI_add]
        refine ⟨(upd fs k (zI (k : Int)), upd ch k (zI (Cg k))), rfl, fun j hj => ?_⟩
        dsimp only
        by_cases ej : j = k
        · subst ej
          exact ⟨fun _ => ⟨pk_us, pk_us⟩, fun z => absurd hdk z⟩
        · rw [pk_un ej, pk_un ej]; exact hI j (by omega)
    · have hn : ¬ dk k := fun z => hg ((hd k).mp z).1
      rw [f' (by unfold gr at hg; unfold inG; omega)]
      simp only [Option.bind_some, if_true, pu_gt ((zn_in (show k ≤ 1000000 by omega)).mpr hk), zn_cl (show k ≤ 1000000 by omega), pk_us, zI_s, mc_f hn]
      refine ⟨(upd fs k (-1), upd ch k 0), rfl, fun j hj => ?_⟩
      dsimp only
      by_cases ej : j = k
      · subst ej
        exact ⟨fun z => absurd z hn, fun _ => pk_us⟩
      · rw [pk_un ej, pk_un ej]; exact hI j (by omega)) (by
    rintro ⟨fs, ch⟩ hI
    unfold p_Mod_run_L2
    dsimp only at hI ⊢
    rw [if_pos (by decide)]
    exact ⟨_, rfl, _, fs, ch, rfl, hI⟩) (k0 := 0) (s0 := (fs, ch)) (by omega) (fun k hk => by omega)
  obtain ⟨e, h1, z, fs', ch', rfl, h2⟩ := this
  exact ⟨z, fs', ch', h1, h2⟩
end D
/-- a run: the same number of spots, the same marks, the same spots -/
theorem a_run (hw : w ≤ 24) (hh : h ≤ 24) {xf xl mf ml xs ys mch le gr' lo hi s ch jx jy ft fs mcg : Nat → Int32} {ra rd rx ry ma' md' held f0 mf0 to' be' sj sf smk th re wi ma sp da : Int32} {la lb su my ab be : Int64} {N : Nat} (hN : N = 7 * ((w * h + 1) / 2)) (hF : IG w h xf mf) (hG : IG w h xl ml) (hS : IS ra rd ma' md') (hC : ICh w h held xs ys mch) (hf : INf f0 mf0) (hr : INr w h le gr' lo hi) :
    ∃ (r : Int32) (la' lb' : Int64) (jn' mk' : Int32) (s' ch' jx' jy' ft' : Nat → Int32) (ab2 be2 : Int64) (fs' mcg' : Nat → Int32), p_Pic_run (zI w) (zI h) (w * h) xf (w * h) xl ra rd rx ry held 12 xs 12 ys la lb f0 to' be' (w * h) le (w * h) gr' (zI w) (zI h) sj sf smk (w * h) s (w * h) ch (w * h) jx (w * h) jy N ft = some (r, la', lb', jn', r, mk', s', ch', jx', jy', ft') ∧ p_Mod_run th (zI w) (zI h) re wi mf0 ma' md' su my ab be ma sp da 576 mf 576 ml 576 mch 576 lo 576 hi 576 fs 576 mcg = some (r, 0, ab2, be2, mk', r, fs', mcg') ∧ IMk mk' mk' ∧ ISp w h r r s' ft' fs' mcg' := by
  have hwh := g_wh hw hh
  obtain ⟨A, B, A1, A2, B1, B2, k1, k2⟩ := @w_two 0 re wi mf0 ma sp da su my ab be w h hw hh xf xl mf ml xs ys mch ra rd rx ry ma' md' held la lb hF hG hS hC
  obtain ⟨Cg, hCg⟩ := chs (D := fun p => gr w h p) (P := fun p c => 0 ≤ c ∧ c ≤ 1000000000 ∧ p_Pic_changeAt (zI ((p % 24 : Nat) : Int)) (zI ((p / 24 : Nat) : Int)) (zI w) (zI h) (w * h) xf (w * h) xl ra rd rx ry (zL A) (zL B) = some (zI c) ∧ ∀ th re wi fl su my ma sp da, p_Mod_changeOf (zI (p : Int)) th (zI w) (zI h) re wi fl ma' md' su my (zL A) (zL B) ma sp da 576 mf 576 ml = some (zI c)) (fun p hp => by
    unfold gr at hp
    have := c_two (rx := rx) (ry := ry) (A := A) (B := B) hw hh hF hG hS A1 A2 B1 B2 (x := p % 24) (y := p / 24) hp.1 hp.2
    rw [show 24 * (p / 24) + p % 24 = p by omega] at this
    exact this)
  obtain ⟨Bd, hBd⟩ := chs (D := fun p => gr w h p) (P := fun p c => 0 ≤ c ∧ c ≤ 510 ∧ p_Pic_boundAt (zI ((p % 24 : Nat) : Int)) (zI ((p / 24 : Nat) : Int)) (zI w) (zI h) (w * h) xf f0 to' be' (w * h) le (w * h) gr' = some (zI c) ∧ ∀ th re wi ac dn ma sp da su my ab be, p_Mod_boundOf (zI (p : Int)) th (zI w) (zI h) re wi mf0 ac dn su my ab be ma sp da 576 mf 576 lo 576 hi = some (zI c)) (fun p hp => by
    unfold gr at hp
    have := b_all (to' := to') (be' := be') hw hh (x := p % 24) (y := p / 24) hp.1 hp.2 hF hf hr
    rw [show 24 * (p / 24) + p % 24 = p by omega] at this
    exact this)
  have xyp : ∀ x y : Nat, x < w → y < h → gr w h (24 * y + x) ∧ (24 * y + x) % 24 = x ∧ (24 * y + x) / 24 = y := fun x y hx hy => by unfold gr; omega
  have hCx : ∀ x y : Nat, x < w → y < h → 0 ≤ Cg (24 * y + x) ∧ Cg (24 * y + x) ≤ 1000000000 ∧ p_Pic_changeAt (zI x) (zI y) (zI w) (zI h) (w * h) xf (w * h) xl ra rd rx ry (zL A) (zL B) = some (zI (Cg (24 * y + x))) := fun x y hx hy => by
    obtain ⟨g, m1, m2⟩ := xyp x y hx hy
    obtain ⟨a, b, c, -⟩ := hCg _ g
    rw [m1, m2] at c
    exact ⟨a, b, c⟩
  have hBx : ∀ x y : Nat, x < w → y < h → 0 ≤ Bd (24 * y + x) ∧ Bd (24 * y + x) ≤ 510 ∧ p_Pic_boundAt (zI x) (zI y) (zI w) (zI h) (w * h) xf f0 to' be' (w * h) le (w * h) gr' = some (zI (Bd (24 * y + x))) := fun x y hx hy => by
    obtain ⟨g, m1, m2⟩ := xyp x y hx hy
    obtain ⟨a, b, c, -⟩ := hBd _ g
    rw [m1, m2] at c
    exact ⟨a, b, c⟩
  obtain ⟨dk, hdk⟩ : ∃ dk : Nat → Prop, ∀ p, dk p ↔ gr w h p ∧ Bd p < Cg p := ⟨_, fun _ => Iff.rfl⟩
  have hd : ∀ p, dk p → p < 576 ∧ gr w h p := fun p hp => ⟨gr5 hh ((hdk p).mp hp).1, ((hdk p).mp hp).1⟩
  obtain ⟨s1, s2, s3⟩ := @k_clear (zI w) (zI h) sj sf smk s (w * h) hwh
  obtain ⟨z1, s4, ch4, m1, m2⟩ := k_marks (sj := sj) (u0 := 0) (ch := ch) hw hh hdk hCx hBx s3
  obtain ⟨jn', s', jx', jy', ft', j1, j2, j3⟩ := j_all (jx := jx) (jy := jy) (jn := sj) (mk := zI (mc dk 576)) (ft := ft) (Cg := Cg) hw hh hd (s := s4) (ch := ch4) (fun p hp => ⟨fun q => ((m2 p hp).1 ⟨(hd p q).1, q⟩).1, fun q => (m2 p hp).2 (fun z => q z.2)⟩) (fun p hp => ((m2 p (hd p hp).2).1 ⟨(hd p hp).1, hp⟩).2) hN
  obtain ⟨z2, fs1, mcg1, n1, n2⟩ := m_marks (re := re) (wi := wi) (sp := sp) (da := da) (su := su) (my := my) (fs := fs) (ch := mcg) hw hh hdk (ac := ma') (dn := md') (A := zL A) (B := zL B) (mf := mf) (ml := ml) (lo := lo) (hi := hi) (mf0 := mf0) (fun x y hx hy => by
    obtain ⟨a, b, -, c⟩ := hCg _ (xyp x y hx hy).1
    exact ⟨a, b, c⟩) (fun x y hx hy => by
    obtain ⟨a, b, -, c⟩ := hBd _ (xyp x y hx hy).1
    exact ⟨a, b, c⟩)
  have hMI : MI dk fs1 := fun k hk => ⟨fun q => ⟨k, ((n2 k hk).1 q).1, q, Nat.le_refl _, Cn_r k⟩, fun q => (n2 k hk).2 q⟩
  obtain ⟨x, fs2, l1, l2⟩ := @l_all re wi mf0 ma' md' (zI (mc dk 576)) sp da su my (zL A) (zL B) w h hw hh dk hd fs1 hMI
  obtain ⟨z3, q1⟩ := n_count hd l2
  have hmc : 0 ≤ mc dk 576 ∧ mc dk 576 ≤ 576 := kc_in dk
  refine ⟨zI (cn dk 576 : Int), zL A, zL B, jn', zI (mc dk 576), s', ch4, jx', jy', ft', zL A, zL B, fs2, mcg1, ?_, ?_, ⟨mc dk 576, hmc.1, hmc.2, rfl, rfl⟩, dk, Cg, hd, rfl, rfl, j2, j3, l2, fun p hp => ((n2 p (hd p hp).1).1 hp).2⟩
  · unfold p_Pic_run
    rw [k1]
    simp only [Option.bind_some]
    rw [s2]
    simp only [Option.bind_some]
    rw [m1]
    simp only [Option.bind_some]
    rw [j1]
    rfl
  · unfold p_Mod_run
    rw [k2]
    simp only [Option.bind_some]
    rw [n1]
    simp only [Option.bind_some]
    rw [l1]
    simp only [Option.bind_some]
    rw [q1]
    rfl
end AQ
