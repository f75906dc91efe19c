/-! maps, pure: what is 0 by the laws stays so; sums as lists against sums as vectors -/
theorem jn_cg {W : zWd} (hW : Wok W) {n i k n' : Nat} {u u' w : zL} (hi : i < n) (hw : ∀ p, p ∈ w → Tr (wA W) (we W) k p.1) (hn : n' + 1 = n + k) (h : Cg (wP W) (Gn W n) u u') : Cg (wP W) (Gn W n') (jn i u w) (jn i u' w) := Cg.bd w fun p hp => by
  have := Id.gr hW h (u := p.1) (hw p hp).1 hi (by rw [(hw p hp).2]; exact hn)
  rw [mp_app, mp_sc] at this
  exact this
theorem td_cg {W : zWd} (hW : Wok W) {A : Nat} {eW : Nat → Nat} {im : Nat → zL} (him : ImOk A eW (wA W) (we W) im) : ∀ (r : List Nat) (m i n : Nat) (u u' : zL), Fs A eW r m → n = i + m → Cg (wP W) (Gn W n) u u' → Cg (wP W) (Gn W (i + lvs r)) (td im r i u) (td im r i u')
  | [], m, i, n, u, u', hf, hn, h => by
    have : m = 0 := hf
    have e : n = i + lvs [] := by rw [hn, this]; rfl
    rw [← e]; exact h
  | k :: r, m, i, n, u, u', hf, hn, h => by
    have h1 := hf.1
    have h2 := hf.2
    rw [td, td, lvs]
    by_cases h0 : k = 0
    · rw [if_pos h0] at h2 ⊢
      rw [if_pos h0, if_pos h0, show i + (1 + lvs r) = i + 1 + lvs r by omega]
      exact td_cg hW him r (m - 1) (i + 1) n u u' h2 (by omega) h
    · rw [if_neg h0] at h2 ⊢
      rw [if_neg h0, if_neg h0, Nat.zero_add]
      exact td_cg hW him r _ i (i + (m - 1 + eW (k - 1))) _ _ h2.2 rfl (jn_cg hW (k := eW (k - 1)) (by omega) (him (k - 1) (by omega)) (by omega) h)
def inN (e : Nat → Nat) : List Nat → List Nat → List Nat
  | [], _ => []
  | k :: r, ns => if k = 0 then ns.headD 0 :: inN e r ns.tail else ((inN e r ns).take (e (k - 1))).sum :: (inN e r ns).drop (e (k - 1))
theorem inN_len {A : Nat} {e : Nat → Nat} : ∀ {r : List Nat} {m : Nat} {ns : List Nat}, Fs A e r m → (inN e r ns).length = m
  | [], m, ns, h => by have : m = 0 := h; rw [this]; rfl
  | k :: r, m, ns, h => by
    have h1 := h.1
    have h2 := h.2
    rw [inN]
    by_cases h0 : k = 0
    · rw [if_pos h0] at h2 ⊢
      rw [List.length_cons, inN_len h2]; omega
    · rw [if_neg h0] at h2 ⊢
      rw [List.length_cons, List.length_drop, inN_len h2.2]; omega
theorem inN_sum {e : Nat → Nat} : ∀ {r ns : List Nat}, lvs r = ns.length → (inN e r ns).sum = ns.sum
  | [], ns, h => by
    have : ns = [] := List.length_eq_zero_iff.mp h.symm
    rw [this]; rfl
  | k :: r, ns, h => by
    rw [inN]
    rw [lvs] at h
    by_cases h0 : k = 0
    · rw [if_pos h0] at h ⊢
      cases ns with
      | nil => simp at h
      | cons n ns =>
        show (n :: inN e r ns).sum = _
        rw [List.sum_cons, List.sum_cons, inN_sum (by simp at h; omega)]
    · rw [if_neg h0] at h ⊢
      rw [List.sum_cons, ← List.sum_append, List.take_append_drop, inN_sum (by omega)]
theorem ins_tr {A : Nat} {e : Nat → Nat} : ∀ {r : List Nat} {m : Nat} {Ss : List zL} {ns : List Nat}, Fs A e r m → lvs r = Ss.length → SsT A e Ss ns → SsT A e (ins e r Ss) (inN e r ns)
  | [], m, Ss, ns, _, _, _ => rfl
  | k :: r, m, Ss, ns, h, hl, hs => by
    have h1 := h.1
    have h2 := h.2
    rw [ins, inN]
    rw [lvs] at hl
    by_cases h0 : k = 0
    · rw [if_pos h0] at h2 hl ⊢
      rw [if_pos h0]
      cases Ss with
      | nil => simp at hl
      | cons s Ss =>
        obtain ⟨n, ms, rfl, g1, g2⟩ := hs
        exact ⟨n, _, rfl, g1, ins_tr h2 (by rw [List.tail_cons]; simp at hl; omega) g2⟩
    · rw [if_neg h0] at h2 hl ⊢
      rw [if_neg h0]
      have ih := ins_tr h2.2 (by omega) hs
      have hI := ins_len (Ss := Ss) h2.2
      exact ⟨_, _, rfl, grS_tr (by omega) (by rw [List.length_take, hI]; omega) (ih.take _), ih.drop _⟩
theorem ins_hd {A : Nat} {e : Nat → Nat} {v : List Nat} {Ss : List zL} {ns : List Nat} (hv : Fs A e v 1) (hl : lvs v = Ss.length) (h : SsT A e Ss ns) : ∀ p, p ∈ (ins e v Ss).headD [] → Tr A e ns.sum p.1 := by
  have h1 := ins_tr hv hl h
  have h2 := inN_len (ns := ns) hv
  have h3 := inN_sum (e := e) (hl.trans h.len.symm)
  match hh : ins e v Ss, hn : inN e v ns, h2 with
  | s :: Ss', [n], _ =>
    rw [hh, hn] at h1
    obtain ⟨n', ms, e1, g1, _⟩ := h1
    rw [hn] at h3
    have : n' = n := (List.cons.inj e1).1.symm
    intro p hp
    rw [← h3, show [n].sum = n by simp, ← this]
    exact g1 p hp
  | [], [n], _ =>
    intro p hp
    exact absurd hp List.not_mem_nil
theorem bu_tr {A AK : Nat} {eW eK : Nat → Nat} {im : Nat → zL} (him : ImOk A eW AK eK im) : ∀ {r : List Nat} {m : Nat}, Fs A eW r m → SsT AK eK (bu eW eK im r) (inN eW r (List.replicate (lvs r) 1))
  | [], m, _ => rfl
  | k :: r, m, h => by
    have h1 := h.1
    have h2 := h.2
    rw [bu, inN, lvs]
    by_cases h0 : k = 0
    · rw [if_pos h0] at h2 ⊢
      rw [if_pos h0, if_pos h0, Nat.add_comm, List.replicate_succ]
      refine ⟨1, _, rfl, fun p hp => ?_, bu_tr him h2⟩
      rw [List.mem_singleton.mp hp]
      exact ⟨⟨by omega, by rw [if_pos rfl]; rfl⟩, rfl⟩
    · rw [if_neg h0] at h2 ⊢
      rw [if_neg h0, if_neg h0, Nat.zero_add]
      have ih := bu_tr him h2.2
      have hb := bu_len (eK := eK) (im := im) h2.2
      refine ⟨_, _, rfl, fun p hp => ?_, ih.drop _⟩
      obtain ⟨v, hv, r', hr, e1⟩ := mem_bd hp
      rw [e1]
      have hT := him (k - 1) (by omega) v hv
      exact ins_hd hT.1 (by rw [hT.2, List.length_take, hb]; omega) (ih.take _) r' hr
theorem buT_tr {A AK : Nat} {eW eK : Nat → Nat} {im : Nat → zL} (him : ImOk A eW AK eK im) {n : Nat} {t : List Nat} (ht : Tr A eW n t) : ∀ p, p ∈ buT eW eK im t → Tr AK eK n p.1 := by
  have h1 := bu_tr him ht.1
  have h2 := inN_len (ns := List.replicate (lvs t) 1) ht.1
  have h3 := inN_sum (e := eW) (r := t) (ns := List.replicate (lvs t) 1) (by simp)
  unfold buT
  match hh : bu eW eK im t, hn : inN eW t (List.replicate (lvs t) 1), h2 with
  | s :: Ss', [n1], _ =>
    rw [hh, hn] at h1
    obtain ⟨n', ms, e1, g1, _⟩ := h1
    rw [hn] at h3
    have e2 : n' = n1 := (List.cons.inj e1).1.symm
    intro p hp
    have e3 : n1 = n := by
      rw [← ht.2]
      simpa using h3
    rw [← e3, ← e2]
    exact g1 p hp
  | [], [n1], _ => intro p hp; exact absurd hp List.not_mem_nil
/-- sums alike by P, one by one -/
def LiS (P : Nat) : List zL → List zL → Prop
  | [], Rs => Rs = []
  | s :: Ss, Rs => ∃ t Ts, Rs = t :: Ts ∧ Li P s t ∧ LiS P Ss Ts
theorem ev_dvd {P : Int} {g h : List Nat → Int} : ∀ (u : zL), (∀ t, P ∣ g t - h t) → P ∣ ev g u - ev h u
  | [], _ => dvd_rf
  | p :: r, z => by
    rw [ev_cons, ev_cons]
    exact dvd_add2 (dvd_mulL (z p.1)) (ev_dvd r z)
theorem evS_li {P : Nat} : ∀ {Ss Rs : List zL} {g h : List (List Nat) → Int}, LiS P Ss Rs → (∀ ws, (P : Int) ∣ g ws - h ws) → (P : Int) ∣ evS Ss g - evS Rs h
  | [], Rs, g, h, z, y => by
    have : Rs = [] := z
    rw [this]; exact y []
  | s :: Ss, Rs, g, h, z, y => by
    obtain ⟨t, Ts, rfl, z1, z2⟩ := z
    show (P : Int) ∣ ev (fun w => evS Ss (fun ws => g (w :: ws))) s - ev (fun w => evS Ts (fun ws => h (w :: ws))) t
    exact dvd_tr (ev_dvd s fun w => evS_li z2 fun ws => y (w :: ws)) (z1.ev _)
theorem grS_li {P b : Nat} {Ss Rs : List zL} (h : LiS P Ss Rs) : Li P (grS b Ss) (grS b Rs) := fun t => by
  unfold co
  rw [ev_grS, ev_grS]
  exact evS_li h fun ws => dvd_rf
/-- levels with vectors -/
abbrev zV2 : Type := Nat × (Nat → Nat)
def VnL (W : zWd) (L : List zV2) : List zL := L.map (fun x => Vn (tl W x.1) x.2)
def pk (W : zWd) : List zV2 → List Nat → List (List Nat)
  | x :: L, k :: ks => (tl W x.1).getD k [] :: pk W L ks
  | _, _ => []
def pvv : List zV2 → List Nat → Nat
  | x :: L, k :: ks => x.2 k * pvv L ks
  | _, _ => 1
def bnL (W : zWd) (L : List zV2) : List Nat := L.map (fun x => (tl W x.1).length)
theorem chS_odo {W : zWd} : ∀ (L : List zV2), chS (VnL W L) = (odo (bnL W L)).map (fun ks => (pk W L ks, (pvv L ks : Int)))
  | [] => rfl
  | x :: L => by
    show (Vn (tl W x.1) x.2).flatMap (fun p => (chS (VnL W L)).map (fun q => (p.1 :: q.1, p.2 * q.2))) = ((List.range (tl W x.1).length).flatMap (fun k => (odo (bnL W L)).map (fun r => k :: r))).map _
    rw [chS_odo L]
    unfold Vn V
    rw [List.flatMap_map, List.map_flatMap]
    refine congrArg (fun f => List.flatMap f (List.range (tl W x.1).length)) (funext fun k => ?_)
    rw [List.map_map, List.map_map]
    refine List.map_congr_left fun ks _ => ?_
    show ((tl W x.1).getD k [] :: pk W L ks, (x.2 k : Int) * (pvv L ks : Int)) = ((tl W x.1).getD k [] :: pk W L ks, ((x.2 k * pvv L ks : Nat) : Int))
    rw [Int.natCast_mul]
/-- the terms of a graft -/
def gtm (W : zWd) (b : Nat) (L : List zV2) (ks : List Nat) : List Nat × Int := ((b + 1) :: (pk W L ks).flatten, (pvv L ks : Int))
theorem grS_odo {W : zWd} {b : Nat} (L : List zV2) : grS b (VnL W L) = (odo (bnL W L)).map (gtm W b L) := by
  unfold grS
  rw [chS_odo, List.map_map]; rfl
/-! sums as lists, added -/
theorem ev_lz_cl {g : List Nat → Int} : ∀ (r : List zT), ev g (lz (cl r)) = ev g (lz r)
  | [] => rfl
  | p :: r => by
    rw [cl_cons]
    show _ = (p.2 : Int) * g p.1 + ev g (lz r)
    by_cases h : p.2 = 0
    · rw [if_pos h, ev_lz_cl r, h]; simp
    · rw [if_neg h]
      show (p.2 : Int) * g p.1 + ev g (lz (cl r)) = _
      rw [ev_lz_cl r]
theorem ev_lz_addT {P : Nat} {g : List Nat → Int} {t : List Nat} {v : Nat} : ∀ (r : List zT), (P : Int) ∣ ev g (lz (addT P t v r)) - (ev g (lz r) + (v : Int) * g t)
  | [] => by
    show (P : Int) ∣ ((v % P : Nat) : Int) * g t + 0 - (0 + (v : Int) * g t)
    rw [Int.add_zero, Int.zero_add]
    exact dvd_mulR (by rw [Int.natCast_emod]; exact emod_dvd _ _)
  | p :: r => by
    rw [addT]
    show (P : Int) ∣ _ - ((p.2 : Int) * g p.1 + ev g (lz r) + (v : Int) * g t)
    split
    · rename_i e
      show (P : Int) ∣ (((p.2 + v) % P : Nat) : Int) * g t + ev g (lz r) - _
      rw [e]
      have : (P : Int) ∣ (((p.2 + v) % P : Nat) : Int) * g t - ((p.2 : Int) + (v : Int)) * g t := dvd_mulR (by rw [Int.natCast_emod, Int.natCast_add]; exact emod_dvd _ _)
      rw [Int.add_mul] at this
      rw [show (((p.2 + v) % P : Nat) : Int) * g t + ev g (lz r) - ((p.2 : Int) * g t + ev g (lz r) + (v : Int) * g t) = (((p.2 + v) % P : Nat) : Int) * g t - ((p.2 : Int) * g t + (v : Int) * g t) by omega]
      exact this
    · split
      · show (P : Int) ∣ (p.2 : Int) * g p.1 + ev g (lz (addT P t v r)) - _
        have := ev_lz_addT (P := P) (g := g) (t := t) (v := v) r
        rw [show (p.2 : Int) * g p.1 + ev g (lz (addT P t v r)) - ((p.2 : Int) * g p.1 + ev g (lz r) + (v : Int) * g t) = ev g (lz (addT P t v r)) - (ev g (lz r) + (v : Int) * g t) by omega]
        exact this
      · show (P : Int) ∣ ((v % P : Nat) : Int) * g t + ((p.2 : Int) * g p.1 + ev g (lz r)) - _
        have : (P : Int) ∣ ((v % P : Nat) : Int) * g t - (v : Int) * g t := dvd_mulR (by rw [Int.natCast_emod]; exact emod_dvd _ _)
        rw [show ((v % P : Nat) : Int) * g t + ((p.2 : Int) * g p.1 + ev g (lz r)) - ((p.2 : Int) * g p.1 + ev g (lz r) + (v : Int) * g t) = ((v % P : Nat) : Int) * g t - (v : Int) * g t by omega]
        exact this
theorem ev_lz_adds {P b : Nat} {g : List Nat → Int} : ∀ (l r : List zT), (P : Int) ∣ ev g (lz (adds P b r l)) - (ev g (lz r) + (b : Int) * ev g (lz l))
  | [], r => by
    show (P : Int) ∣ ev g (lz r) - (ev g (lz r) + (b : Int) * 0)
    rw [Int.mul_zero, Int.add_zero]; exact dvd_rf
  | p :: l, r => by
    rw [adds_cons]
    refine dvd_tr (ev_lz_adds l _) ?_
    have h := ev_lz_addT (P := P) (g := g) (t := p.1) (v := p.2 * b % P) r
    have h2 : (P : Int) ∣ ((p.2 * b % P : Nat) : Int) * g p.1 - ((b : Int) * (p.2 : Int)) * g p.1 := dvd_mulR (by rw [Int.natCast_emod, Int.natCast_mul, Int.mul_comm (b : Int)]; exact emod_dvd _ _)
    have h3 := Int.dvd_add h h2
    show (P : Int) ∣ _ - (ev g (lz r) + (b : Int) * ((p.2 : Int) * g p.1 + ev g (lz l)))
    rw [Int.mul_add, ← Int.mul_assoc]
    rw [show ev g (lz (addT P p.1 (p.2 * b % P) r)) + (b : Int) * ev g (lz l) - (ev g (lz r) + ((b : Int) * (p.2 : Int) * g p.1 + (b : Int) * ev g (lz l))) = ev g (lz (addT P p.1 (p.2 * b % P) r)) - (ev g (lz r) + ((p.2 * b % P : Nat) : Int) * g p.1) + (((p.2 * b % P : Nat) : Int) * g p.1 - (b : Int) * (p.2 : Int) * g p.1) by omega]
    exact h3
theorem li_adds {P b : Nat} {l r : List zT} : Li P (lz (cl (adds P b r l))) (lz r ++ scl b (lz l)) := fun t => by
  rw [co_app, co_sc]
  unfold co
  rw [ev_lz_cl]
  exact ev_lz_adds l r
theorem lz_app {a b : List zT} : lz (a ++ b) = lz a ++ lz b := List.map_append
theorem ev_prd {g : List Nat → Int} {i : Nat} {p : zT} : ∀ (l : List zT), ev g (lz (prd i p l)) = (p.2 : Int) * ev (fun v => g (gr p.1 i v)) (lz l)
  | [] => by show (0 : Int) = (p.2 : Int) * 0; omega
  | q :: l => by
    show ((p.2 * q.2 : Nat) : Int) * g (gr p.1 i q.1) + ev g (lz (prd i p l)) = (p.2 : Int) * ((q.2 : Int) * g (gr p.1 i q.1) + ev _ (lz l))
    rw [ev_prd l, Int.mul_add, Int.natCast_mul, Int.mul_assoc]
theorem ev_prds {g : List Nat → Int} {i : Nat} {l : List zT} : ∀ (o : List zT), ev g (lz (prds i o l)) = ev g (jn i (lz o) (lz l))
  | [] => by rw [ev_jn]; rfl
  | p :: o => by
    have e : prds i (p :: o) l = prd i p l ++ prds i o l := List.flatMap_cons
    rw [e, lz_app, ev_app, ev_prd, ev_prds o, ev_jn, ev_jn]
    rfl
/-- the class's join, by P -/
theorem li_join {P i : Nat} {o l : List zT} : Li P (lz (cl (adds P 1 [] (prds i o l)))) (jn i (lz o) (lz l)) := (li_adds (P := P) (b := 1) (r := []) (l := prds i o l)).tr (Li.of fun t => by
  rw [co_app, co_sc]
  unfold co
  rw [ev_prds]
  show 0 + ((1 : Nat) : Int) * _ = _
  omega)
theorem co_Dn {T : List (List Nat)} (hT : T.Nodup) {v : Nat → Nat} : ∀ {k s : Nat}, k ≤ T.length → s < T.length → co (lz (Dn T v k)) (T.getD s []) = if T.length - k ≤ s then (v s : Int) else 0
  | 0, s, _, hs => by
    rw [if_neg (by omega)]; rfl
  | k + 1, s, hk, hs => by
    rw [Dn, lz_app, co_app, co_Dn hT (by omega) hs]
    have hx : co (lz (if v (T.length - 1 - k) = 0 then [] else [(T.getD (T.length - 1 - k) [], v (T.length - 1 - k))])) (T.getD s []) = if T.length - 1 - k = s then (v s : Int) else 0 := by
      by_cases z : v (T.length - 1 - k) = 0
      · rw [if_pos z]
        by_cases e : T.length - 1 - k = s
        · rw [if_pos e, ← e, z]; rfl
        · rw [if_neg e]; rfl
      · rw [if_neg z]
        show (v (T.length - 1 - k) : Int) * (if T.getD (T.length - 1 - k) [] = T.getD s [] then 1 else 0) + 0 = _
        by_cases e : T.length - 1 - k = s
        · rw [if_pos e, if_pos (by rw [e]), e]; omega
        · rw [if_neg e, if_neg (fun y => e (getD_inj hT (by omega) hs y))]; omega
    rw [hx]
    by_cases e : T.length - 1 - k = s
    · rw [if_pos e, if_neg (by omega), if_pos (by omega)]; omega
    · rw [if_neg e]
      by_cases q : T.length - k ≤ s
      · rw [if_pos q, if_pos (by omega)]; omega
      · rw [if_neg q, if_neg (by omega)]; omega
theorem nf_cg {W : zWd} (hW : Wok W) {n : Nat} {mk : Nat → Nat → Nat} {rl : Nat → Nat → Nat → Nat} (hC : LvC W mk rl n) {c c1 : List zT} (hc : ∀ p, p ∈ c → Tr (wA W) (we W) n p.1) (h : NfC W n (mk n) (rl n) c c1) : Cg (wP W) (Gn W n) (lz c1) (lz c) := by
  obtain ⟨v, v1, a1, a2, a3, a4, rfl⟩ := h
  have hcm : ∀ p, p ∈ lz c → p.1 ∈ tl W n := fun p hp => by
    obtain ⟨q, hq, e⟩ := lz_mem hp
    rw [e]; exact (tl_mem hW.2.1).mpr (hc q hq)
  have c1 : Cg (wP W) (Gn W n) (Vn (tl W n) v) (Vn (tl W n) v1) := ((a3.2 (tl W n).length (fun t x y => absurd y (by omega))).2).le fun z hz => by
    obtain ⟨s, _, s2, s3, s4⟩ := hz
    rw [s4]
    exact (hC.1 s s2 s3).2.1
  have c2 : Cg (wP W) (Gn W n) (lz c) (Vn (tl W n) v) := Cg.of (acc_li tl_nodup a1 hcm)
  have c3 : Cg (wP W) (Gn W n) (lz (Dn (tl W n) v1 (tl W n).length)) (Vn (tl W n) v1) := Cg.of (li_V tl_nodup (fun p hp => by
    obtain ⟨q, hq, e⟩ := lz_mem hp
    obtain ⟨s, _, s2, s3, _⟩ := mem_Dn (Nat.le_refl _) hq
    rw [e, s3]; exact mem_gd s2) (fun k hk => by
    rw [co_Dn tl_nodup (Nat.le_refl _) hk, if_pos (by omega)]; exact dvd_rf))
  exact c3.tr ((c2.tr c1).sy)
/-- a sum of trees none of which has a rule -/
def NmS (W : zWd) (n : Nat) (mk : Nat → Nat) (c : List zT) : Prop := ∀ p, p ∈ c → ∃ s, s < (tl W n).length ∧ p.1 = (tl W n).getD s [] ∧ mk s = 0
theorem nf_nm {W : zWd} {n : Nat} {mk : Nat → Nat} {rl : Nat → Nat → Nat} {c c1 : List zT} (h : NfC W n mk rl c c1) : NmS W n mk c1 := by
  obtain ⟨v, v1, a1, a2, a3, a4, rfl⟩ := h
  intro p hp
  obtain ⟨s, _, s2, s3, s4⟩ := mem_Dn (Nat.le_refl _) hp
  refine ⟨s, s2, by rw [s3], Classical.byContradiction fun z => s4 (a3.1 s s2 z)⟩
theorem id_one {W : zWd} (hW : Wok W) {v : zL} (h : Id W 1 v) : ∀ t, (wP W : Int) ∣ co v t := by
  refine Sp.ind h (fun v => ∀ t, (wP W : Int) ∣ co v t) (fun t => Int.dvd_zero _) (fun u w a b t => by rw [co_app]; exact Int.dvd_add (a t) (b t)) (fun k u a t => by rw [co_sc]; exact Int.dvd_mul_of_dvd_right (a t)) (fun u w l a t => dvd_of (dvd_sy (l t)) (a t)) (fun g hg => (gn_one hW hg).elim)
theorem nm_one {W : zWd} (hW : Wok W) {mk : Nat → Nat → Nat} {rl : Nat → Nat → Nat → Nat} (hC : LvC W mk rl 1) {s : Nat} (hs : s < (tl W 1).length) : mk 1 s = 0 := Classical.byContradiction fun z => by
  have h := id_one hW (hC.1 s hs z).2.1 ((tl W 1).getD s [])
  rw [co_V tl_nodup hs] at h
  have : RC (rl 1) s s = 1 := by unfold RC; rw [if_pos rfl]
  rw [this] at h
  have := Int.le_of_dvd (by omega) h
  have := hW.1.1
  omega
theorem co_lz {A : Nat} {e : Nat → Nat} {P n : Nat} {p : zT} {r : List zT} (h : De (p :: r)) : co (lz (p :: r)) p.1 = (p.2 : Int) := by
  show (p.2 : Int) * (if p.1 = p.1 then 1 else 0) + co (lz r) p.1 = _
  rw [if_pos rfl, co_out (fun q hq => by
    obtain ⟨q', hq', e⟩ := lz_mem hq
    intro z
    have := (List.pairwise_cons.mp h).1 q' hq'
    rw [← e, z] at this
    exact absurd this (Nat.lt_irrefl _))]
  omega
/-- a normal sum is 0 by the laws only if it is no sum -/
theorem nm_zero {W : zWd} (hW : Wok W) {n : Nat} {mk : Nat → Nat → Nat} {rl : Nat → Nat → Nat → Nat} (hC : LvC W mk rl n) {c : List zT} {U : zL} (hc : Ce (wA W) (we W) (wP W) n c) (hn : NmS W n (mk n) c) (hU : Cg (wP W) (Gn W n) (lz c) U) : c = [] ↔ Id W n U := by
  constructor
  · rintro rfl
    exact hU.sy.sp Sp.nil
  · intro h
    have h1 : Id W n (lz c) := hU.sp h
    cases c with
    | nil => rfl
    | cons p r =>
      exfalso
      have hT := hn p List.mem_cons_self
      obtain ⟨s, s1, s2, s3⟩ := hT
      have hz := red_zero hC (h1.le hC.2.1) (fun t ht hm => by
        rw [co_out (fun q hq => by
          obtain ⟨q', hq', e⟩ := lz_mem hq
          obtain ⟨s', a1, a2, a3⟩ := hn q' hq'
          intro z
          rw [e, a2] at z
          have := getD_inj tl_nodup a1 ht z
          rw [this] at a3
          exact hm a3)]
        exact Int.dvd_zero _) s s1
      rw [← s2, co_lz (A := 0) (e := fun _ => 0) (P := 0) (n := 0) hc.1.1] at hz
      have h2 := hc.2 p List.mem_cons_self
      have h3 := (hc.1.2 p List.mem_cons_self).2
      have := Int.le_of_dvd (by omega) hz
      omega
/-- the reference's vector, brought down, is 0 just when the sum is 0 by the laws -/
theorem red_id {W : zWd} (hW : Wok W) {pv : Nat → Nat → Bool} {bs : Nat → Nat → Nat → Nat} {n : Nat} (hR : LvR W pv bs n) {u : zL} {v v1 : Nat → Nat} (hu : ∀ p, p ∈ u → p.1 ∈ tl W n) (a1 : AccV (wP W) (tl W n) v u) (r1 : RedR (tl W n) (wP W) (pv n) (bs n) v v1) (b1 : ∀ i, i < (tl W n).length → v1 i < wP W) : (∀ i, i < (tl W n).length → v1 i = 0) ↔ Id W n u := by
  have c1 : Cg (wP W) (Gn W n) (Vn (tl W n) v) (Vn (tl W n) v1) := ((r1.2 (tl W n).length (fun t x y => absurd y (by omega))).2).le fun z hz => by
    obtain ⟨s, _, s2, s3, s4⟩ := hz
    rw [s4]
    exact (hR.1 s s2 s3).2.2.2.2
  have c2 : Cg (wP W) (Gn W n) u (Vn (tl W n) v1) := (Cg.of (acc_li tl_nodup a1 hu)).tr c1
  constructor
  · intro h
    refine c2.sp (Sp.nil.li fun t => ?_)
    rw [co_nil, Int.zero_sub]
    refine Int.dvd_neg.mpr ?_
    by_cases ht : t ∈ tl W n
    · obtain ⟨k, hk, e⟩ := mem_idx ht
      rw [← e, co_Vn' tl_nodup hk, h k hk]
      exact Int.dvd_zero _
    · have : co (Vn (tl W n) v1) t = 0 := co_Vn ht
      rw [this]; exact Int.dvd_zero _
  · intro h i hi
    have h1 : Id W n (Vn (tl W n) v1) := c2.sy.sp h
    have h2 := h1.le hR.2
    have hE : Ech (wP W) (tl W n).length (pv n) (RR (bs n)) := fun t ht hm => ⟨by
      show (wP W : Int) ∣ (bs n t t : Int) - 1
      rw [(hR.1 t ht hm).2.1]; exact dvd_rf, fun s hs hs2 => by
      show (wP W : Int) ∣ (bs n t s : Int)
      rw [(hR.1 t ht hm).2.2.1 s hs hs2]; exact Int.dvd_zero _⟩
    have hD : Red (wP W) (tl W n).length (pv n) (RR (bs n)) := fun t s ht hs hm hms hne => by
      show (wP W : Int) ∣ (bs n t s : Int)
      rw [(hR.1 t ht hm).2.2.2.1 s hs hne hms]; exact Int.dvd_zero _
    have := rep tl_nodup hE hD h2 i hi
    rw [co_Vn' tl_nodup hi] at this
    have h3 := dvd_of this (smz_dvd fun t ht => by
      split
      · rename_i q
        rw [co_Vn' tl_nodup ht, r1.1 t ht q]
        simp
      · exact Int.dvd_zero _)
    exact nat_mod (b1 i hi) (by have := hW.1.1; omega) (by simpa using h3)
