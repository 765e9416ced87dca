theorem three_ne : ¬ (3 : Int32) = 0 := by decide
theorem FR.ext {τ τ1 τ' : GS} (h : FR τ τ1) (e : ∀ key, key ≤ 8 ∨ key = 23 → τ' key = τ1 key) : FR τ τ' := ⟨fun k h1 h2 => (congrFun (e 0 (by omega)) k).trans (h.1 k h1 h2), fun k hk => (e k (by omega)).trans (h.2 k hk)⟩
theorem pfail_n {σ : GS} {r : Nat} (i : Int32) (h : σ 14 r = -1) : xr_X4_placeFailure σ r i = (1, σ) := by
  unfold xr_X4_placeFailure
  rw [thereX_n h]
  rfl
theorem pfail_i {σ : GS} {r : Nat} {i : Int32} (h : ¬ σ 14 r = -1) (h2 : xr_X5_isBelow i (σ 14 r) = 0) : xr_X4_placeFailure σ r i = (3, σ) := by
  unfold xr_X4_placeFailure
  rw [thereX_y h]
  show (if (1 : Int32) = 0 then (1, σ) else bd (xr_X4_hasPlace σ r i) (fun v4 σ6 => if v4 = 0 then ((3 : Int32), σ6) else (0, σ6))) = _
  rw [if_neg one_ne, hasP_eq, h2]
  rfl
theorem pfail_0 {σ : GS} {r : Nat} {i : Int32} (h : ¬ σ 14 r = -1) (h2 : xr_X5_isBelow i (σ 14 r) = 1) : xr_X4_placeFailure σ r i = (0, σ) := by
  unfold xr_X4_placeFailure
  rw [thereX_y h]
  show (if (1 : Int32) = 0 then (1, σ) else bd (xr_X4_hasPlace σ r i) (fun v4 σ6 => if v4 = 0 then ((3 : Int32), σ6) else (0, σ6))) = _
  rw [if_neg one_ne, hasP_eq, h2]
  rfl
theorem pfail_ok (σ : GS) {r : Nat} (hr : r < 7) (i : Int32) : xo_X4_placeFailure σ r i := ⟨hr, thereX_ok _ hr, fun _ => trivial, fun _ => ⟨hasP_ok _ hr _, fun _ => trivial, fun _ => trivial⟩⟩
theorem idx_0 {τ : GS} {i n : Int32} (h : xr_X6_in i 0 (n - 1) = 0) : xr_X6_isIndex τ i n = (0, st τ 0 27 3) := by
  unfold xr_X6_isIndex
  rw [if_pos h]
  refine if_neg ?_
  show ¬ upd (τ 0) 27 3 27 = 0
  rw [upd_s]
  decide
theorem idx_1 {τ : GS} {i n : Int32} (h : xr_X6_in i 0 (n - 1) = 1) : xr_X6_isIndex τ i n = (1, st τ 0 27 0) := by
  unfold xr_X6_isIndex
  rw [h, if_neg one_ne]
  exact if_pos (upd_s (τ 0) 27 0)
theorem renew_f {σ : GS} {r : Nat} {a v c f : Int32} (h : xr_X5_sizeFailure v = f) (hf : ¬ f = 0) : xr_X4_renew σ r a v c = (f, σ) := by
  unfold xr_X4_renew
  rw [h, if_neg hf]
theorem renew_0 {σ : GS} {r : Nat} {a v c : Int32} (h : xr_X5_sizeFailure v = 0) : xr_X4_renew σ r a v c = (0, fill8 (st (st σ 13 r a) 14 r v) (20 + r) c) := by
  unfold xr_X4_renew
  rw [h, if_pos rfl, renew_loop]
theorem renew_okk (σ : GS) {r : Nat} (hr : r < 7) (a v c : Int32) : xo_X4_renew σ r a v c := ⟨hr, o_size5 _, fun _ => ⟨hr, hr, renew_ok _ hr _ _ _ _ _⟩, fun _ => trivial⟩
section OPS
variable {m : Nat} {σ τ : GS}
theorem sp_3 (h : RH m σ τ) (hm : m < 64) (hz : τ 0 27 = 0) {a b c : Nat} (ha : a < 4) (hb : b < 5) (hc : c < 6) : SP m τ (xo_X0_perform σ 3 (nI a) (nI b) (nI c)) (xo_X6_belts τ 3 (nI a) (nI b) (nI c)) (xr_X0_perform σ 3 (nI a) (nI b) (nI c)) (xr_X6_belts τ 3 (nI a) (nI b) (nI c)) := by
  have ca : (nI a).toNatClampNeg = a := nI_clamp (by omega)
  have va : vp_in (nI a) 4 := vp_in_nI ha (by decide)
  have vc : vp_in (nI c) 6 := vp_in_nI hc (by decide)
  have l7 : (nI a).toNatClampNeg < 7 := by rw [ca]; omega
  have h1 := h.1.1.1
  have okx : xo_X0_perform σ 3 (nI a) (nI b) (nI c) := pfo_3 _ _ _ _ ⟨bao_3 _ _ _ _ ⟨va, vc, renew_okk _ l7 _ _ _, trivial⟩, trivial⟩
  rcases size_cases τ (σ 1 (nI c).toNatClampNeg) with ⟨e1, e2⟩ | ⟨e1, e2⟩ | ⟨e1, e2, n, hn, e3⟩
  · refine ⟨okx, blo_3 _ _ _ _ ⟨vc, o_size6 _ _, ?_⟩, ?_⟩
    · rw [← h1, e2]; exact ⟨fun _ => trivial, fun z => absurd rfl z⟩
    rw [pf_3, ba_3, bl_3, ← h1, renew_f e1 (by decide), e2]
    exact ⟨⟨2, by omega, rfl, rfl⟩, ⟨m, by omega, h.sc _ _ (by decide)⟩, (FR.rf τ).f _⟩
  · refine ⟨okx, blo_3 _ _ _ _ ⟨vc, o_size6 _ _, ?_⟩, ?_⟩
    · rw [← h1, e2]; exact ⟨fun _ => trivial, fun z => absurd rfl z⟩
    rw [pf_3, ba_3, bl_3, ← h1, renew_f e1 (by decide), e2]
    exact ⟨⟨6, by omega, rfl, rfl⟩, ⟨m, by omega, h.sc _ _ (by decide)⟩, (FR.rf τ).f _⟩
  · obtain ⟨τ', i1, i2, i3, i4, i5⟩ := loopB ha hn 3 (nI b) (nI c) (nI a) n 0 100 (st (st (st τ 0 27 0) 13 a (nI n)) 14 a (nI b)) (by omega) (by omega)
    refine ⟨okx, blo_3 _ _ _ _ ⟨vc, o_size6 _ _, ?_⟩, ?_⟩
    · rw [← h1, e2, e3, ca]; exact ⟨fun _ => trivial, fun _ => ⟨va, va, i2⟩⟩
    rw [pf_3, ba_3, bl_3, ← h1, renew_0 e1, e2, e3, ca]
    show SP_tail m τ (0, fill8 (st (st σ 13 a (nI b)) 14 a (nI n)) (20 + a) (-1)) (xl_X6_belts_62 100 (st (st (st τ 0 27 0) 13 a (nI n)) 14 a (nI b)) 3 (nI a) (nI b) (nI c) (nI a) (nI n) 0)
    have i1' : xl_X6_belts_62 100 (st (st (st τ 0 27 0) 13 a (nI n)) 14 a (nI b)) 3 (nI a) (nI b) (nI c) (nI a) (nI n) 0 = (0, τ') := i1
    rw [i1']
    refine ⟨⟨0, by omega, rfl, (congrFun (i3 0 (by omega)) 27).trans (upd_s (τ 0) 27 0)⟩, ⟨m, by omega, ?_⟩, FR.ext ((((FR.rf τ).f 0).put a (nI n) (by omega)).put a (nI b) (by omega)) (fun key hk => i3 key (by omega))⟩
    refine (h.sc 27 0 (by decide)).belt (r := a) (n := n) (k := b) ha hn hb (fun key k1 k2 k3 => ?_) (fun j => ?_) (fun j => ?_) (fun i hi => fill8_s _ _ _ hi) (fun key k1 k2 k3 => ?_) (fun j => ?_) (fun j => ?_) (fun j j1 j2 => i4 j (by omega) j2) (fun j hj => (i5 j (by omega)).trans rfl)
    · show fill8 _ _ _ key = σ key
      rw [fill8_n _ _ k3, st_n _ _ _ k2, st_n _ _ _ k1]
    · show fill8 _ _ _ 13 j = _
      rw [fill8_n _ _ (by omega)]
      rfl
    · show fill8 _ _ _ 14 j = _
      rw [fill8_n _ _ (by omega)]
      rfl
    · show τ' key = _
      rw [i3 key k3, st_n _ _ _ k2, st_n _ _ _ k1]
    · show τ' 13 j = _
      rw [i3 13 (by omega)]
      rfl
    · show τ' 14 j = _
      rw [i3 14 (by omega)]
      rfl
theorem sp_13 (h : RH m σ τ) (hm : m < 64) (hz : τ 0 27 = 0) {a b : Nat} (ha : a < 3) (hb : b < 6) (c : Int32) : SP m τ (xo_X0_perform σ 13 (nI a) (nI b) c) (xo_X6_counts τ 13 (nI a) (nI b) c) (xr_X0_perform σ 13 (nI a) (nI b) c) (xr_X6_counts τ 13 (nI a) (nI b) c) := by
  have ca : (nI a).toNatClampNeg = a := nI_clamp (by omega)
  have va : vp_in (nI a) 3 := vp_in_nI ha (by decide)
  have vb : vp_in (nI b) 6 := vp_in_nI hb (by decide)
  have l7 : 4 + (nI a).toNatClampNeg < 7 := by rw [ca]; omega
  have h1 := h.1.1.1
  have okx : xo_X0_perform σ 13 (nI a) (nI b) c := pfo_13 _ _ _ _ ⟨cao_13 _ _ _ _ ⟨va, vb, renew_okk _ l7 _ _ _, trivial⟩, trivial⟩
  rcases size_cases τ (σ 1 (nI b).toNatClampNeg) with ⟨e1, e2⟩ | ⟨e1, e2⟩ | ⟨e1, e2, n, hn, e3⟩
  · refine ⟨okx, cto_13 _ _ _ _ ⟨vb, o_size6 _ _, ?_⟩, ?_⟩
    · rw [← h1, e2]; exact ⟨fun _ => trivial, fun z => absurd rfl z⟩
    rw [pf_13, ca_13, ct_13, ← h1, renew_f e1 (by decide), e2]
    exact ⟨⟨2, by omega, rfl, rfl⟩, ⟨m, by omega, h.sc _ _ (by decide)⟩, (FR.rf τ).f _⟩
  · refine ⟨okx, cto_13 _ _ _ _ ⟨vb, o_size6 _ _, ?_⟩, ?_⟩
    · rw [← h1, e2]; exact ⟨fun _ => trivial, fun z => absurd rfl z⟩
    rw [pf_13, ca_13, ct_13, ← h1, renew_f e1 (by decide), e2]
    exact ⟨⟨6, by omega, rfl, rfl⟩, ⟨m, by omega, h.sc _ _ (by decide)⟩, (FR.rf τ).f _⟩
  · obtain ⟨τ', i1, i2, i3, i4, i5⟩ := loopC ha hn 13 (nI b) c n 0 100 (st (st τ 0 27 0) 16 a (nI n)) (by omega) (by omega)
    refine ⟨okx, cto_13 _ _ _ _ ⟨vb, o_size6 _ _, ?_⟩, ?_⟩
    · rw [← h1, e2, e3, ca]; exact ⟨fun _ => trivial, fun _ => ⟨va, i2⟩⟩
    rw [pf_13, ca_13, ct_13, ← h1, renew_0 e1, e2, e3, ca]
    show SP_tail m τ (0, fill8 (st (st σ 13 (4 + a) (-1)) 14 (4 + a) (nI n)) (20 + (4 + a)) 0) (xl_X6_counts_34 100 (st (st τ 0 27 0) 16 a (nI n)) 13 (nI a) (nI b) c (nI n) 0)
    have i1' : xl_X6_counts_34 100 (st (st τ 0 27 0) 16 a (nI n)) 13 (nI a) (nI b) c (nI n) 0 = (0, τ') := i1
    rw [i1']
    refine ⟨⟨0, by omega, rfl, (congrFun (i3 0 (by omega)) 27).trans (upd_s (τ 0) 27 0)⟩, ⟨m, by omega, ?_⟩, FR.ext (((FR.rf τ).f 0).put a (nI n) (by omega)) (fun key hk => i3 key (by omega))⟩
    refine (h.sc 27 0 (by decide)).counter (r := a) (n := n) (w := -1) ha hn (fun key k1 k2 k3 => ?_) (fun j => ?_) (fun j => ?_) (fun i hi => fill8_s _ _ _ hi) (fun key k1 k2 => ?_) (fun j => ?_) (fun j j1 j2 => i4 j (by omega) j2) (fun j hj => (i5 j (by omega)).trans rfl)
    · show fill8 _ _ _ key = σ key
      rw [fill8_n _ _ k3, st_n _ _ _ k2, st_n _ _ _ k1]
    · show fill8 _ _ _ 13 j = _
      rw [fill8_n _ _ (by omega)]
      rfl
    · show fill8 _ _ _ 14 j = _
      rw [fill8_n _ _ (by omega)]
      rfl
    · show τ' key = _
      rw [i3 key k2, st_n _ _ _ k1]
    · show τ' 16 j = _
      rw [i3 16 (by omega)]
      rfl
theorem sp_14 (h : RH m σ τ) (hm : m < 64) (hz : τ 0 27 = 0) {a b : Nat} (ha : a < 3) (hb : b < 6) (c : Int32) : SP m τ (xo_X0_perform σ 14 (nI a) (nI b) c) (xo_X6_counts τ 14 (nI a) (nI b) c) (xr_X0_perform σ 14 (nI a) (nI b) c) (xr_X6_counts τ 14 (nI a) (nI b) c) := by
  have ca : (nI a).toNatClampNeg = a := nI_clamp (by omega)
  have va : vp_in (nI a) 3 := vp_in_nI ha (by decide)
  have vb : vp_in (nI b) 6 := vp_in_nI hb (by decide)
  have l7 : 4 + (nI a).toNatClampNeg < 7 := by rw [ca]; omega
  have h1 := h.1.1.1
  obtain ⟨q1, q2⟩ := h.2.2 a ha
  have okx : (∀ z : (xr_X4_placeFailure σ (4 + a) (σ 1 (nI b).toNatClampNeg)).1 = 0, vp_in (σ 1 (nI b).toNatClampNeg) 8) → xo_X0_perform σ 14 (nI a) (nI b) c := fun hv => pfo_14 _ _ _ _ ⟨cao_14 _ _ _ _ ⟨va, vb, ⟨l7, pfail_ok _ l7 _, fun z => by rw [ca] at z ⊢; exact ⟨by omega, by omega, hv z, by omega, hv z, trivial⟩, fun _ => trivial⟩, trivial⟩, trivial⟩
  rcases q2 with q2 | ⟨n, hn, q2, q3⟩
  · have e1 : τ 16 a = -1 := q1.symm.trans q2
    have pf := pfail_n (σ 1 (nI b).toNatClampNeg) q2
    refine ⟨okx (fun z => absurd (by rw [pf] at z; exact z) one_ne), cto_14 _ _ _ _ ⟨vb, va, fun _ => ⟨o_there0 _, fun _ => trivial, fun z => absurd rfl z⟩, fun z => absurd (by rw [ca]; exact e1) z⟩, ?_⟩
    rw [pf_14, ca_14, ct_14, ca, if_pos e1, there0]
    unfold xr_X0_count
    rw [pf]
    exact ⟨⟨1, by omega, rfl, rfl⟩, ⟨m, by omega, h.sc _ _ (by decide)⟩, (FR.rf τ).f _⟩
  · have e0 : ¬ σ 14 (4 + a) = -1 := by rw [q2]; exact nI_m1 (by omega)
    have e1 : ¬ τ 16 a = -1 := by rw [← q1]; exact e0
    have ein : xr_X6_in (σ 1 (nI b).toNatClampNeg) 0 (τ 16 a - 1) = xr_X5_isBelow (σ 1 (nI b).toNatClampNeg) (nI n) := by rw [← q1, q2]; exact idx_num _ hn
    rcases bel_cases (σ 1 (nI b).toNatClampNeg) n (by omega) with ⟨d1, d2⟩ | ⟨d1, i, d2, d3⟩
    · have pf := pfail_i (i := σ 1 (nI b).toNatClampNeg) e0 (by rw [q2]; exact d1)
      have ix : xr_X6_isIndex (st τ 0 27 0) (σ 1 (nI b).toNatClampNeg) (st τ 0 27 0 16 a) = (0, st (st τ 0 27 0) 0 27 3) := idx_0 (ein.trans d1)
      refine ⟨okx (fun z => absurd (by rw [pf] at z; exact z) three_ne), cto_14 _ _ _ _ ⟨vb, va, fun z => absurd (by rw [ca] at z; exact z) e1, fun _ => ⟨o_there1 _, fun z => absurd z one_ne, fun _ => ⟨va, o_idx6 _ _ _, ?_⟩⟩⟩, ?_⟩
      · rw [there1, ca, ← h1, ix]; exact ⟨fun _ => trivial, fun z => absurd rfl z⟩
      rw [pf_14, ca_14, ct_14, ca, if_neg e1, there1, ← h1]
      unfold xr_X0_count
      rw [pf]
      show SP_tail m τ (3, σ) (bd (xr_X6_isIndex (st τ 0 27 0) (σ 1 (nI b).toNatClampNeg) (st τ 0 27 0 16 a)) (fun v90 σ92 => if v90 = 0 then ((0 : Int32), σ92) else _))
      rw [ix]
      exact ⟨⟨3, by omega, rfl, rfl⟩, ⟨m, by omega, (h.sc 27 0 (by decide)).sc 27 3 (by decide)⟩, ((FR.rf τ).f _).f _⟩
    · have pf := pfail_0 (i := σ 1 (nI b).toNatClampNeg) e0 (by rw [q2]; exact d1)
      have ix : xr_X6_isIndex (st τ 0 27 0) (σ 1 (nI b).toNatClampNeg) (st τ 0 27 0 16 a) = (1, st (st τ 0 27 0) 0 27 0) := idx_1 (ein.trans d1)
      have vi : vp_in (σ 1 (nI b).toNatClampNeg) 8 := by rw [d3]; exact vp_in_nI (by omega) (by decide)
      have vk : vp_in (8 * nI a + σ 1 (nI b).toNatClampNeg) 24 := by rw [d3, b8]; exact vp_in_nI (by omega) (by decide)
      refine ⟨okx (fun _ => vi), cto_14 _ _ _ _ ⟨vb, va, fun z => absurd (by rw [ca] at z; exact z) e1, fun _ => ⟨o_there1 _, fun z => absurd z one_ne, fun _ => ⟨va, o_idx6 _ _ _, ?_⟩⟩⟩, ?_⟩
      · rw [there1, ca, ← h1, ix]; exact ⟨fun _ => trivial, fun _ => ⟨vk, vk, trivial⟩⟩
      rw [pf_14, ca_14, ct_14, ca, if_neg e1, there1, ← h1]
      unfold xr_X0_count
      rw [pf]
      show SP_tail m τ (0, st σ (20 + (4 + a)) (σ 1 (nI b).toNatClampNeg).toNatClampNeg (σ (20 + (4 + a)) (σ 1 (nI b).toNatClampNeg).toNatClampNeg + 1)) (bd (xr_X6_isIndex (st τ 0 27 0) (σ 1 (nI b).toNatClampNeg) (st τ 0 27 0 16 a)) (fun v90 σ92 => if v90 = 0 then ((0 : Int32), σ92) else (0, st σ92 17 (8 * nI a + σ 1 (nI b).toNatClampNeg).toNatClampNeg (σ92 17 (8 * nI a + σ 1 (nI b).toNatClampNeg).toNatClampNeg + 1))))
      rw [ix, d3, b8, nI_clamp (by omega), nI_clamp (by omega)]
      refine ⟨⟨0, by omega, rfl, rfl⟩, ⟨m, by omega, ?_⟩, (((FR.rf τ).f _).f _).put _ _ (by omega)⟩
      show RH m (st σ (20 + (4 + a)) i (σ (20 + (4 + a)) i + 1)) (st (st (st τ 0 27 0) 0 27 0) 17 (8 * a + i) (τ 17 (8 * a + i) + 1))
      rw [q3 i d2]
      exact ((h.sc 27 0 (by decide)).sc 27 0 (by decide)).cnt ha (by omega) _
theorem sp_15 (h : RH m σ τ) (hm : m < 64) (hz : τ 0 27 = 0) {a b c : Nat} (ha : a < 6) (hb : b < 3) (hc : c < 6) : SP m τ (xo_X0_perform σ 15 (nI a) (nI b) (nI c)) (xo_X6_counts τ 15 (nI a) (nI b) (nI c)) (xr_X0_perform σ 15 (nI a) (nI b) (nI c)) (xr_X6_counts τ 15 (nI a) (nI b) (nI c)) := by
  have cb : (nI b).toNatClampNeg = b := nI_clamp (by omega)
  have va : vp_in (nI a) 6 := vp_in_nI ha (by decide)
  have vb : vp_in (nI b) 3 := vp_in_nI hb (by decide)
  have vc : vp_in (nI c) 6 := vp_in_nI hc (by decide)
  have l7 : 4 + (nI b).toNatClampNeg < 7 := by rw [cb]; omega
  have h1 := h.1.1.1
  obtain ⟨q1, q2⟩ := h.2.2 b hb
  have okx : (∀ z : (xr_X4_placeFailure σ (4 + b) (σ 1 (nI c).toNatClampNeg)).1 = 0, vp_in (σ 1 (nI c).toNatClampNeg) 8) → xo_X0_perform σ 15 (nI a) (nI b) (nI c) := fun hv => pfo_15 _ _ _ _ ⟨cao_15 _ _ _ _ ⟨vb, vc, ⟨l7, pfail_ok _ l7 _, fun z => by rw [cb] at z ⊢; exact ⟨by omega, by omega, hv z, va, trivial⟩, fun _ => trivial⟩, trivial⟩, trivial⟩
  rcases q2 with q2 | ⟨n, hn, q2, q3⟩
  · have e1 : τ 16 b = -1 := q1.symm.trans q2
    have pf := pfail_n (σ 1 (nI c).toNatClampNeg) q2
    refine ⟨okx (fun z => absurd (by rw [pf] at z; exact z) one_ne), cto_15 _ _ _ _ ⟨vc, vb, fun _ => ⟨o_there0 _, fun _ => trivial, fun z => absurd rfl z⟩, fun z => absurd (by rw [cb]; exact e1) z⟩, ?_⟩
    rw [pf_15, ca_15, ct_15, cb, if_pos e1, there0]
    unfold xr_X0_readCount
    rw [pf]
    exact ⟨⟨1, by omega, rfl, rfl⟩, ⟨m, by omega, h.sc _ _ (by decide)⟩, (FR.rf τ).f _⟩
  · have e0 : ¬ σ 14 (4 + b) = -1 := by rw [q2]; exact nI_m1 (by omega)
    have e1 : ¬ τ 16 b = -1 := by rw [← q1]; exact e0
    have ein : xr_X6_in (σ 1 (nI c).toNatClampNeg) 0 (τ 16 b - 1) = xr_X5_isBelow (σ 1 (nI c).toNatClampNeg) (nI n) := by rw [← q1, q2]; exact idx_num _ hn
    rcases bel_cases (σ 1 (nI c).toNatClampNeg) n (by omega) with ⟨d1, d2⟩ | ⟨d1, i, d2, d3⟩
    · have pf := pfail_i (i := σ 1 (nI c).toNatClampNeg) e0 (by rw [q2]; exact d1)
      have ix : xr_X6_isIndex (st τ 0 27 0) (σ 1 (nI c).toNatClampNeg) (st τ 0 27 0 16 b) = (0, st (st τ 0 27 0) 0 27 3) := idx_0 (ein.trans d1)
      refine ⟨okx (fun z => absurd (by rw [pf] at z; exact z) three_ne), cto_15 _ _ _ _ ⟨vc, vb, fun z => absurd (by rw [cb] at z; exact z) e1, fun _ => ⟨o_there1 _, fun z => absurd z one_ne, fun _ => ⟨vb, o_idx6 _ _ _, ?_⟩⟩⟩, ?_⟩
      · rw [there1, cb, ← h1, ix]; exact ⟨fun _ => trivial, fun z => absurd rfl z⟩
      rw [pf_15, ca_15, ct_15, cb, if_neg e1, there1, ← h1]
      unfold xr_X0_readCount
      rw [pf]
      show SP_tail m τ (3, σ) (bd (xr_X6_isIndex (st τ 0 27 0) (σ 1 (nI c).toNatClampNeg) (st τ 0 27 0 16 b)) (fun v90 σ92 => if v90 = 0 then ((0 : Int32), σ92) else _))
      rw [ix]
      exact ⟨⟨3, by omega, rfl, rfl⟩, ⟨m, by omega, (h.sc 27 0 (by decide)).sc 27 3 (by decide)⟩, ((FR.rf τ).f _).f _⟩
    · have pf := pfail_0 (i := σ 1 (nI c).toNatClampNeg) e0 (by rw [q2]; exact d1)
      have ix : xr_X6_isIndex (st τ 0 27 0) (σ 1 (nI c).toNatClampNeg) (st τ 0 27 0 16 b) = (1, st (st τ 0 27 0) 0 27 0) := idx_1 (ein.trans d1)
      have vi : vp_in (σ 1 (nI c).toNatClampNeg) 8 := by rw [d3]; exact vp_in_nI (by omega) (by decide)
      have vk : vp_in (8 * nI b + σ 1 (nI c).toNatClampNeg) 24 := by rw [d3, b8]; exact vp_in_nI (by omega) (by decide)
      refine ⟨okx (fun _ => vi), cto_15 _ _ _ _ ⟨vc, vb, fun z => absurd (by rw [cb] at z; exact z) e1, fun _ => ⟨o_there1 _, fun z => absurd z one_ne, fun _ => ⟨vb, o_idx6 _ _ _, ?_⟩⟩⟩, ?_⟩
      · rw [there1, cb, ← h1, ix]; exact ⟨fun _ => trivial, fun _ => ⟨vk, va, trivial⟩⟩
      rw [pf_15, ca_15, ct_15, cb, if_neg e1, there1, ← h1]
      unfold xr_X0_readCount
      rw [pf]
      show SP_tail m τ (0, st σ 1 (nI a).toNatClampNeg (σ (20 + (4 + b)) (σ 1 (nI c).toNatClampNeg).toNatClampNeg)) (bd (xr_X6_isIndex (st τ 0 27 0) (σ 1 (nI c).toNatClampNeg) (st τ 0 27 0 16 b)) (fun v90 σ92 => if v90 = 0 then ((0 : Int32), σ92) else (0, st σ92 22 (nI a).toNatClampNeg (σ92 17 (8 * nI b + σ 1 (nI c).toNatClampNeg).toNatClampNeg))))
      rw [ix, d3, b8, nI_clamp (n := i) (by omega), nI_clamp (n := 8 * b + i) (by omega)]
      refine ⟨⟨0, by omega, rfl, rfl⟩, ⟨m, by omega, ?_⟩, (((FR.rf τ).f _).f _).put _ _ (by omega)⟩
      show RH m (st σ 1 _ (σ (20 + (4 + b)) i)) (st (st (st τ 0 27 0) 0 27 0) 22 _ (τ 17 (8 * b + i)))
      rw [q3 i d2]
      exact ((h.sc 27 0 (by decide)).sc 27 0 (by decide)).reg _ _
end OPS
