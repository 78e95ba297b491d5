/-! ask, walked -/
theorem as_wd_is {p ov : Int} {R : Nat → Int → Int} {wd : Int → Int} (o : Int) : ∀ i : Int, 0 ≤ i → i < ((8 : Nat) : Int) → im_up (im_up (im_up (im_up (im_up (im_up (im_up (im_up (im_up wd 0 p) 1 (R 2 p)) 2 o) 3 (R 0 p)) 4 (R 1 p)) 5 (R 3 p)) 6 (R 7 0)) 7 (R 7 3)) 2 ov i = as_wd p ov R i := by
  intro i h1 h2
  unfold im_up as_wd
  have : i = 0 ∨ i = 1 ∨ i = 2 ∨ i = 3 ∨ i = 4 ∨ i = 5 ∨ i = 6 ∨ i = 7 := by omega
  rcases this with rfl | rfl | rfl | rfl | rfl | rfl | rfl | rfl <;> rfl
theorem as_wd_is0 {p : Int} {R : Nat → Int → Int} {wd : Int → Int} : ∀ i : Int, 0 ≤ i → i < ((8 : Nat) : Int) → im_up (im_up (im_up (im_up (im_up (im_up (im_up (im_up wd 0 p) 1 (R 2 p)) 2 (-1)) 3 (R 0 p)) 4 (R 1 p)) 5 (R 3 p)) 6 (R 7 0)) 7 (R 7 3) i = as_wd p (-1) R i := by
  intro i h1 h2
  unfold im_up as_wd
  have : i = 0 ∨ i = 1 ∨ i = 2 ∨ i = 3 ∨ i = 4 ∨ i = 5 ∨ i = 6 ∨ i = 7 := by omega
  rcases this with rfl | rfl | rfl | rfl | rfl | rfl | rfl | rfl <;> rfl
theorem as_lat_is {q : im_T} {wd wd' : Int → Int} (h : ∀ i : Int, 0 ≤ i → i < ((8 : Nat) : Int) → wd i = wd' i) (kind x : Int) : tx_lat (mc_ev q.2.1.2 q.2.1.1 8 wd) (tx_part q.2.2.1 q.2.2.2) kind x q.1.2.1.toNat = as_lat (some q) wd' kind x := by
  unfold as_lat
  have : mc_ev q.2.1.2 q.2.1.1 8 wd = mc_ev q.2.1.2 q.2.1.1 8 wd' := funext fun st => mc_ev_congr h
  rw [this]
section As
variable {ro : ab_R} {T : List im_T} {d : Nat}
set_option maxHeartbeats 8000000 in
theorem c_askNo (hd : 4 ≤ d) (hT : T.length < 1000) {v : Nat → Int} {b : Int} (hb : b = 0 ∨ b = 1) {s : Int → Int} (hs : SOK s) {wd : Int → Int} (hwd : WOK wd) {lv : Nat → Int} {R : Nat → Int → Int} {g : Int → Option Nat} (h : LOK lv R) (hday : R 7 0 ≤ 100000) (hf : lv 5 < 0) {p ten : Int} (hp : 0 ≤ p ∧ p < lv 0) (hten : 0 ≤ ten ∧ ten ≤ 99) : im_ct ro T d 2 [mr 0, mr 4, .inl p, .inl ten] (CC 0 v b s wd ++ LC 4 lv R g) (fun r w => r = none ∧ ∃ b1 s1 wd1, (b1 = 0 ∨ b1 = 1) ∧ SOK s1 ∧ WOK wd1 ∧ w = CC 0 (as_v none p ten R) b1 s1 wd1 ++ LC 4 lv R g) := by
  obtain ⟨d, rfl⟩ : ∃ e, d = e + 1 := ⟨d - 1, by omega⟩
  have h1 := lk_par h
  have h2 := lk_cnt h p
  have h3 := lk_bel h p
  have h4 := lk_dep h p
  have h5 := lk_wlk h p
  have h6 := lk_trm h
  refine im_ct_of (own := 0) (ret := none) (code := ab_k_X0_ask) (nL := 5) (L0 := [some (mr 0), some (mr 4), some (.inl p), some (.inl ten), none]) (n := 16) rfl rfl rfl rfl rfl rfl rfl rfl rfl ?_
  refine im_g 2 (y := (2, _, _, _)) rfl trivial ?_
  refine im_call [4,5,6,7,8,9,10,11,12,13,14,15] rfl rfl (c_has (v := lv) (R := R) (g := g) (p := p) (by omega) hT (by omega) (by omega)) rfl rfl rfl (by decide) rfl (by decide) hT (fun v1 w1 hq => ?_)
  obtain ⟨rfl, rfl⟩ := hq
  refine ⟨_, _, CC 0 v b s wd ++ LC 4 lv R g, rfl, rfl, rfl, ?_⟩
  refine im_bT rfl rfl ⟨(by omega), trivial⟩ (by omega) ?_
  refine im_g 1 (y := (10, _, _, _)) rfl trivial ?_
  refine im_call [4,5,6,7,8,9,10,11,12,13,14,15] rfl rfl (c_lawNo (v := lv) (R := R) (g := g) (by omega) hT h hf) rfl rfl rfl (by decide) rfl (by decide) hT (fun v1 w1 hq => ?_)
  obtain ⟨rfl, rfl⟩ := hq
  refine ⟨_, _, CC 0 v b s wd ++ LC 4 lv R g, rfl, rfl, rfl, ?_⟩
  refine im_g 59 (y := (103, _, _, _)) rfl ⟨(by omega), (by omega), (by omega), (by omega), (by omega), (by omega), (by omega), (by omega), (by omega), (by omega), (by omega), (by omega), (by omega), (by omega), trivial⟩ ?_
  have hw0 : WOK (im_up (im_up (im_up (im_up (im_up (im_up (im_up (im_up wd 0 p) 1 (R 2 p)) 2 (-1)) 3 (R 0 p)) 4 (R 1 p)) 5 (R 3 p)) 6 (R 7 0)) 7 (R 7 3)) := WOK_up (WOK_up (WOK_up (WOK_up (WOK_up (WOK_up (WOK_up (WOK_up hwd (by omega)) (by omega)) (by omega)) (by omega)) (by omega)) (by omega)) (by omega)) (by omega)
  refine im_g 2 (y := (105, _, _, _)) rfl trivial ?_
  refine im_b rfl rfl ⟨(by omega), trivial⟩ (fun j1 => ?_) (fun j1 => ?_)
  · refine im_g 7 (y := (122, _, _, _)) rfl ⟨(by omega), trivial⟩ ?_
    refine im_call [0,1,2,3] rfl rfl (c_latNo (v := v) (b := b) (s := s) (wd := (im_up (im_up (im_up (im_up (im_up (im_up (im_up (im_up wd 0 p) 1 (R 2 p)) 2 (-1)) 3 (R 0 p)) 4 (R 1 p)) 5 (R 3 p)) 6 (R 7 0)) 7 (R 7 3))) (kind := 0) (x := R 7 1) (by omega) hT) rfl rfl rfl (by decide) rfl (by decide) hT (fun v1 w1 hq => ?_)
    obtain ⟨rfl, rfl⟩ := hq
    refine ⟨_, _, CC 0 v b s (im_up (im_up (im_up (im_up (im_up (im_up (im_up (im_up wd 0 p) 1 (R 2 p)) 2 (-1)) 3 (R 0 p)) 4 (R 1 p)) 5 (R 3 p)) 6 (R 7 0)) 7 (R 7 3)) ++ LC 4 lv R g, rfl, rfl, rfl, ?_⟩
    have hl1 : -1000001000 ≤ as_lat none (as_wd p (-1) R) 0 (R 7 1) ∧ as_lat none (as_wd p (-1) R) 0 (R 7 1) ≤ 1000001000 := ⟨by show -1000001000 ≤ (R 7 1 : Int); omega, by show (R 7 1 : Int) ≤ 1000001000; omega⟩
    have hz1 : as_lat none (as_wd p (-1) R) 0 (R 7 1) = (R 7 1) := rfl
    refine im_g 2 (y := (128, _, _, _)) rfl trivial ?_
    refine im_call [] rfl rfl (c_bounded (x := (as_lat none (as_wd p (-1) R) 0 (R 7 1))) (a := 2) (b := 99) (by omega) hT (by omega) (by decide) (by decide)) rfl rfl rfl (by decide) rfl (by decide) hT (fun v1 w1 hq => ?_)
    obtain ⟨rfl, rfl⟩ := hq
    refine ⟨_, _, CC 0 v b s (im_up (im_up (im_up (im_up (im_up (im_up (im_up (im_up wd 0 p) 1 (R 2 p)) 2 (-1)) 3 (R 0 p)) 4 (R 1 p)) 5 (R 3 p)) 6 (R 7 0)) 7 (R 7 3)) ++ LC 4 lv R g, rfl, rfl, rfl, ?_⟩
    have e1 : (if (as_lat none (as_wd p (-1) R) 0 (R 7 1)) < 2 then 2 else if 99 < (as_lat none (as_wd p (-1) R) 0 (R 7 1)) then 99 else (as_lat none (as_wd p (-1) R) 0 (R 7 1))) = (as_tens none p ten R) := by
      show bd (as_lat none (as_wd p (-1) R) 0 (R 7 1)) 2 99 = _
      unfold as_tens
      rw [if_neg (by omega)]
    rw [e1]
    have ht := as_tens_b none p ten R
    refine im_g 9 (y := (146, _, _, _)) rfl ⟨(by omega), (by omega), (by omega), (by omega), trivial⟩ ?_
    have e2 : (R 2 p).tmod (as_tens none p ten R) = (as_over none p ten R) := Int.tmod_eq_emod_of_nonneg (by omega)
    rw [e2]
    have ho := as_over_b none p ten R
    have hw1 : WOK (im_up (im_up (im_up (im_up (im_up (im_up (im_up (im_up (im_up wd 0 p) 1 (R 2 p)) 2 (-1)) 3 (R 0 p)) 4 (R 1 p)) 5 (R 3 p)) 6 (R 7 0)) 7 (R 7 3)) 2 (as_over none p ten R)) := WOK_up hw0 (by omega)
    refine im_g 14 (y := (169, _, _, _)) rfl ⟨(by omega), trivial⟩ ?_
    refine im_call [0,1,2,3] rfl rfl (c_latNo (v := (pl_U (pl_U v 0 (as_tens none p ten R)) 1 (as_over none p ten R))) (b := b) (s := s) (wd := (im_up (im_up (im_up (im_up (im_up (im_up (im_up (im_up (im_up wd 0 p) 1 (R 2 p)) 2 (-1)) 3 (R 0 p)) 4 (R 1 p)) 5 (R 3 p)) 6 (R 7 0)) 7 (R 7 3)) 2 (as_over none p ten R))) (kind := 1) (x := 0) (by omega) hT) rfl rfl rfl (by decide) rfl (by decide) hT (fun v1 w1 hq => ?_)
    obtain ⟨rfl, rfl⟩ := hq
    refine ⟨_, _, CC 0 (pl_U (pl_U v 0 (as_tens none p ten R)) 1 (as_over none p ten R)) b s (im_up (im_up (im_up (im_up (im_up (im_up (im_up (im_up (im_up wd 0 p) 1 (R 2 p)) 2 (-1)) 3 (R 0 p)) 4 (R 1 p)) 5 (R 3 p)) 6 (R 7 0)) 7 (R 7 3)) 2 (as_over none p ten R)) ++ LC 4 lv R g, rfl, rfl, rfl, ?_⟩
    have hl2 : -1000001000 ≤ as_lat none (as_wd p (as_over none p ten R) R) 1 (0) ∧ as_lat none (as_wd p (as_over none p ten R) R) 1 (0) ≤ 1000001000 := ⟨by show -1000001000 ≤ (0 : Int); omega, by show (0 : Int) ≤ 1000001000; omega⟩
    have hz2 : as_lat none (as_wd p (as_over none p ten R) R) 1 (0) = (0) := rfl
    refine im_g 2 (y := (175, _, _, _)) rfl trivial ?_
    refine im_call [] rfl rfl (c_bounded (x := (as_lat none (as_wd p (as_over none p ten R) R) 1 (0))) (a := 0) (b := 98) (by omega) hT (by omega) (by decide) (by decide)) rfl rfl rfl (by decide) rfl (by decide) hT (fun v1 w1 hq => ?_)
    obtain ⟨rfl, rfl⟩ := hq
    refine ⟨_, _, CC 0 (pl_U (pl_U v 0 (as_tens none p ten R)) 1 (as_over none p ten R)) b s (im_up (im_up (im_up (im_up (im_up (im_up (im_up (im_up (im_up wd 0 p) 1 (R 2 p)) 2 (-1)) 3 (R 0 p)) 4 (R 1 p)) 5 (R 3 p)) 6 (R 7 0)) 7 (R 7 3)) 2 (as_over none p ten R)) ++ LC 4 lv R g, rfl, rfl, rfl, ?_⟩
    have e3 : min (as_over none p ten R) (if (as_lat none (as_wd p (as_over none p ten R) R) 1 (0)) < 0 then 0 else if 98 < (as_lat none (as_wd p (as_over none p ten R) R) 1 (0)) then 98 else (as_lat none (as_wd p (as_over none p ten R) R) 1 (0))) = (as_stay none p ten R) := rfl
    have hb9 := bd_b (x := (as_lat none (as_wd p (as_over none p ten R) R) 1 (0))) (a := 0) (b := 98) (by decide)
    unfold bd at hb9
    refine im_g 1 (y := (181, _, _, _)) rfl ⟨(by omega), (by omega), trivial⟩ ?_
    rw [e3]
    have hst := as_stay_b none p ten R
    have hsp := as_steps_b none p ten R
    refine im_g 6 (y := (190, _, _, _)) rfl trivial ?_
    refine im_call [0,1,2,3] rfl rfl (c_latNo (v := (pl_U (pl_U (pl_U v 0 (as_tens none p ten R)) 1 (as_over none p ten R)) 2 (as_stay none p ten R))) (b := b) (s := s) (wd := (im_up (im_up (im_up (im_up (im_up (im_up (im_up (im_up (im_up wd 0 p) 1 (R 2 p)) 2 (-1)) 3 (R 0 p)) 4 (R 1 p)) 5 (R 3 p)) 6 (R 7 0)) 7 (R 7 3)) 2 (as_over none p ten R))) (kind := 2) (x := 1) (by omega) hT) rfl rfl rfl (by decide) rfl (by decide) hT (fun v1 w1 hq => ?_)
    obtain ⟨rfl, rfl⟩ := hq
    refine ⟨_, _, CC 0 (pl_U (pl_U (pl_U v 0 (as_tens none p ten R)) 1 (as_over none p ten R)) 2 (as_stay none p ten R)) b s (im_up (im_up (im_up (im_up (im_up (im_up (im_up (im_up (im_up wd 0 p) 1 (R 2 p)) 2 (-1)) 3 (R 0 p)) 4 (R 1 p)) 5 (R 3 p)) 6 (R 7 0)) 7 (R 7 3)) 2 (as_over none p ten R)) ++ LC 4 lv R g, rfl, rfl, rfl, ?_⟩
    have hl3 : -1000001000 ≤ as_lat none (as_wd p (as_over none p ten R) R) 2 (1) ∧ as_lat none (as_wd p (as_over none p ten R) R) 2 (1) ≤ 1000001000 := ⟨by show -1000001000 ≤ (1 : Int); omega, by show (1 : Int) ≤ 1000001000; omega⟩
    have hz3 : as_lat none (as_wd p (as_over none p ten R) R) 2 (1) = (1) := rfl
    refine im_g 2 (y := (196, _, _, _)) rfl trivial ?_
    refine im_call [] rfl rfl (c_bounded (x := (as_lat none (as_wd p (as_over none p ten R) R) 2 (1))) (a := 1) (b := 9) (by omega) hT (by omega) (by decide) (by decide)) rfl rfl rfl (by decide) rfl (by decide) hT (fun v1 w1 hq => ?_)
    obtain ⟨rfl, rfl⟩ := hq
    refine ⟨_, _, CC 0 (pl_U (pl_U (pl_U v 0 (as_tens none p ten R)) 1 (as_over none p ten R)) 2 (as_stay none p ten R)) b s (im_up (im_up (im_up (im_up (im_up (im_up (im_up (im_up (im_up wd 0 p) 1 (R 2 p)) 2 (-1)) 3 (R 0 p)) 4 (R 1 p)) 5 (R 3 p)) 6 (R 7 0)) 7 (R 7 3)) 2 (as_over none p ten R)) ++ LC 4 lv R g, rfl, rfl, rfl, ?_⟩
    have e4 : (if (as_lat none (as_wd p (as_over none p ten R) R) 2 (1)) < 1 then 1 else if 9 < (as_lat none (as_wd p (as_over none p ten R) R) 2 (1)) then 9 else (as_lat none (as_wd p (as_over none p ten R) R) 2 (1))) = (as_steps none p ten R) := rfl
    rw [e4]
    refine im_g 6 (y := (208, _, _, _)) rfl trivial ?_
    refine im_call [0,1,2,3] rfl rfl (c_latNo (v := (pl_U (pl_U (pl_U (pl_U v 0 (as_tens none p ten R)) 1 (as_over none p ten R)) 2 (as_stay none p ten R)) 3 (as_steps none p ten R))) (b := b) (s := s) (wd := (im_up (im_up (im_up (im_up (im_up (im_up (im_up (im_up (im_up wd 0 p) 1 (R 2 p)) 2 (-1)) 3 (R 0 p)) 4 (R 1 p)) 5 (R 3 p)) 6 (R 7 0)) 7 (R 7 3)) 2 (as_over none p ten R))) (kind := 3) (x := 0) (by omega) hT) rfl rfl rfl (by decide) rfl (by decide) hT (fun v1 w1 hq => ?_)
    obtain ⟨rfl, rfl⟩ := hq
    refine ⟨_, _, CC 0 (pl_U (pl_U (pl_U (pl_U v 0 (as_tens none p ten R)) 1 (as_over none p ten R)) 2 (as_stay none p ten R)) 3 (as_steps none p ten R)) b s (im_up (im_up (im_up (im_up (im_up (im_up (im_up (im_up (im_up wd 0 p) 1 (R 2 p)) 2 (-1)) 3 (R 0 p)) 4 (R 1 p)) 5 (R 3 p)) 6 (R 7 0)) 7 (R 7 3)) 2 (as_over none p ten R)) ++ LC 4 lv R g, rfl, rfl, rfl, ?_⟩
    have hl4 : -1000001000 ≤ as_lat none (as_wd p (as_over none p ten R) R) 3 (0) ∧ as_lat none (as_wd p (as_over none p ten R) R) 3 (0) ≤ 1000001000 := ⟨by show -1000001000 ≤ (0 : Int); omega, by show (0 : Int) ≤ 1000001000; omega⟩
    have hz4 : as_lat none (as_wd p (as_over none p ten R) R) 3 (0) = (0) := rfl
    refine im_b rfl rfl ⟨(by omega), trivial⟩ (fun j2 => ?_) (fun j2 => ?_)
    · refine im_g 2 (y := (222, _, _, _)) rfl ⟨(by omega), trivial⟩ ?_
      refine im_r rfl rfl trivial rfl ?_
      have eb : (as_bar none p ten R) = 0 := by
        unfold as_bar
        rw [if_pos (by omega)]
      refine ⟨rfl, b, s, (im_up (im_up (im_up (im_up (im_up (im_up (im_up (im_up (im_up wd 0 p) 1 (R 2 p)) 2 (-1)) 3 (R 0 p)) 4 (R 1 p)) 5 (R 3 p)) 6 (R 7 0)) 7 (R 7 3)) 2 (as_over none p ten R)), hb, hs, hw1, ?_⟩
      show _ = CC 0 (as_v none p ten R) b s (im_up (im_up (im_up (im_up (im_up (im_up (im_up (im_up (im_up wd 0 p) 1 (R 2 p)) 2 (-1)) 3 (R 0 p)) 4 (R 1 p)) 5 (R 3 p)) 6 (R 7 0)) 7 (R 7 3)) 2 (as_over none p ten R)) ++ LC 4 lv R g
      show _ = [.inl (0, [mr 1, mr 3, .inl (as_tens none p ten R), .inl (as_over none p ten R), .inl (as_stay none p ten R), .inl (as_steps none p ten R), .inl (as_bar none p ten R)]), .inl (2, [mr 2, .inl b]), .inr (0, 64, .inl s), .inr (0, 8, .inl (im_up (im_up (im_up (im_up (im_up (im_up (im_up (im_up (im_up wd 0 p) 1 (R 2 p)) 2 (-1)) 3 (R 0 p)) 4 (R 1 p)) 5 (R 3 p)) 6 (R 7 0)) 7 (R 7 3)) 2 (as_over none p ten R)))] ++ LC 4 lv R g
      rw [eb]
      rfl
    · refine im_g 3 (y := (222, _, _, _)) rfl ⟨(by omega), trivial⟩ ?_
      refine im_r rfl rfl trivial rfl ?_
      have eb : (as_bar none p ten R) = 1 := by
        unfold as_bar
        rw [if_neg (by omega)]
      refine ⟨rfl, b, s, (im_up (im_up (im_up (im_up (im_up (im_up (im_up (im_up (im_up wd 0 p) 1 (R 2 p)) 2 (-1)) 3 (R 0 p)) 4 (R 1 p)) 5 (R 3 p)) 6 (R 7 0)) 7 (R 7 3)) 2 (as_over none p ten R)), hb, hs, hw1, ?_⟩
      show _ = CC 0 (as_v none p ten R) b s (im_up (im_up (im_up (im_up (im_up (im_up (im_up (im_up (im_up wd 0 p) 1 (R 2 p)) 2 (-1)) 3 (R 0 p)) 4 (R 1 p)) 5 (R 3 p)) 6 (R 7 0)) 7 (R 7 3)) 2 (as_over none p ten R)) ++ LC 4 lv R g
      show _ = [.inl (0, [mr 1, mr 3, .inl (as_tens none p ten R), .inl (as_over none p ten R), .inl (as_stay none p ten R), .inl (as_steps none p ten R), .inl (as_bar none p ten R)]), .inl (2, [mr 2, .inl b]), .inr (0, 64, .inl s), .inr (0, 8, .inl (im_up (im_up (im_up (im_up (im_up (im_up (im_up (im_up (im_up wd 0 p) 1 (R 2 p)) 2 (-1)) 3 (R 0 p)) 4 (R 1 p)) 5 (R 3 p)) 6 (R 7 0)) 7 (R 7 3)) 2 (as_over none p ten R)))] ++ LC 4 lv R g
      rw [eb]
      rfl
  · refine im_g 2 (y := (125, _, _, _)) rfl trivial ?_
    refine im_g 2 (y := (128, _, _, _)) rfl trivial ?_
    refine im_call [] rfl rfl (c_bounded (x := ten) (a := 2) (b := 99) (by omega) hT (by omega) (by decide) (by decide)) rfl rfl rfl (by decide) rfl (by decide) hT (fun v1 w1 hq => ?_)
    obtain ⟨rfl, rfl⟩ := hq
    refine ⟨_, _, CC 0 v b s (im_up (im_up (im_up (im_up (im_up (im_up (im_up (im_up wd 0 p) 1 (R 2 p)) 2 (-1)) 3 (R 0 p)) 4 (R 1 p)) 5 (R 3 p)) 6 (R 7 0)) 7 (R 7 3)) ++ LC 4 lv R g, rfl, rfl, rfl, ?_⟩
    have e1 : (if ten < 2 then 2 else if 99 < ten then 99 else ten) = (as_tens none p ten R) := by
      show bd ten 2 99 = _
      unfold as_tens
      rw [if_pos (by omega)]
    rw [e1]
    have ht := as_tens_b none p ten R
    refine im_g 9 (y := (146, _, _, _)) rfl ⟨(by omega), (by omega), (by omega), (by omega), trivial⟩ ?_
    have e2 : (R 2 p).tmod (as_tens none p ten R) = (as_over none p ten R) := Int.tmod_eq_emod_of_nonneg (by omega)
    rw [e2]
    have ho := as_over_b none p ten R
    have hw1 : WOK (im_up (im_up (im_up (im_up (im_up (im_up (im_up (im_up (im_up wd 0 p) 1 (R 2 p)) 2 (-1)) 3 (R 0 p)) 4 (R 1 p)) 5 (R 3 p)) 6 (R 7 0)) 7 (R 7 3)) 2 (as_over none p ten R)) := WOK_up hw0 (by omega)
    refine im_g 14 (y := (169, _, _, _)) rfl ⟨(by omega), trivial⟩ ?_
    refine im_call [0,1,2,3] rfl rfl (c_latNo (v := (pl_U (pl_U v 0 (as_tens none p ten R)) 1 (as_over none p ten R))) (b := b) (s := s) (wd := (im_up (im_up (im_up (im_up (im_up (im_up (im_up (im_up (im_up wd 0 p) 1 (R 2 p)) 2 (-1)) 3 (R 0 p)) 4 (R 1 p)) 5 (R 3 p)) 6 (R 7 0)) 7 (R 7 3)) 2 (as_over none p ten R))) (kind := 1) (x := 0) (by omega) hT) rfl rfl rfl (by decide) rfl (by decide) hT (fun v1 w1 hq => ?_)
    obtain ⟨rfl, rfl⟩ := hq
    refine ⟨_, _, CC 0 (pl_U (pl_U v 0 (as_tens none p ten R)) 1 (as_over none p ten R)) b s (im_up (im_up (im_up (im_up (im_up (im_up (im_up (im_up (im_up wd 0 p) 1 (R 2 p)) 2 (-1)) 3 (R 0 p)) 4 (R 1 p)) 5 (R 3 p)) 6 (R 7 0)) 7 (R 7 3)) 2 (as_over none p ten R)) ++ LC 4 lv R g, rfl, rfl, rfl, ?_⟩
    have hl2 : -1000001000 ≤ as_lat none (as_wd p (as_over none p ten R) R) 1 (0) ∧ as_lat none (as_wd p (as_over none p ten R) R) 1 (0) ≤ 1000001000 := ⟨by show -1000001000 ≤ (0 : Int); omega, by show (0 : Int) ≤ 1000001000; omega⟩
    have hz2 : as_lat none (as_wd p (as_over none p ten R) R) 1 (0) = (0) := rfl
    refine im_g 2 (y := (175, _, _, _)) rfl trivial ?_
    refine im_call [] rfl rfl (c_bounded (x := (as_lat none (as_wd p (as_over none p ten R) R) 1 (0))) (a := 0) (b := 98) (by omega) hT (by omega) (by decide) (by decide)) rfl rfl rfl (by decide) rfl (by decide) hT (fun v1 w1 hq => ?_)
    obtain ⟨rfl, rfl⟩ := hq
    refine ⟨_, _, CC 0 (pl_U (pl_U v 0 (as_tens none p ten R)) 1 (as_over none p ten R)) b s (im_up (im_up (im_up (im_up (im_up (im_up (im_up (im_up (im_up wd 0 p) 1 (R 2 p)) 2 (-1)) 3 (R 0 p)) 4 (R 1 p)) 5 (R 3 p)) 6 (R 7 0)) 7 (R 7 3)) 2 (as_over none p ten R)) ++ LC 4 lv R g, rfl, rfl, rfl, ?_⟩
    have e3 : min (as_over none p ten R) (if (as_lat none (as_wd p (as_over none p ten R) R) 1 (0)) < 0 then 0 else if 98 < (as_lat none (as_wd p (as_over none p ten R) R) 1 (0)) then 98 else (as_lat none (as_wd p (as_over none p ten R) R) 1 (0))) = (as_stay none p ten R) := rfl
    have hb9 := bd_b (x := (as_lat none (as_wd p (as_over none p ten R) R) 1 (0))) (a := 0) (b := 98) (by decide)
    unfold bd at hb9
    refine im_g 1 (y := (181, _, _, _)) rfl ⟨(by omega), (by omega), trivial⟩ ?_
    rw [e3]
    have hst := as_stay_b none p ten R
    have hsp := as_steps_b none p ten R
    refine im_g 6 (y := (190, _, _, _)) rfl trivial ?_
    refine im_call [0,1,2,3] rfl rfl (c_latNo (v := (pl_U (pl_U (pl_U v 0 (as_tens none p ten R)) 1 (as_over none p ten R)) 2 (as_stay none p ten R))) (b := b) (s := s) (wd := (im_up (im_up (im_up (im_up (im_up (im_up (im_up (im_up (im_up wd 0 p) 1 (R 2 p)) 2 (-1)) 3 (R 0 p)) 4 (R 1 p)) 5 (R 3 p)) 6 (R 7 0)) 7 (R 7 3)) 2 (as_over none p ten R))) (kind := 2) (x := 1) (by omega) hT) rfl rfl rfl (by decide) rfl (by decide) hT (fun v1 w1 hq => ?_)
    obtain ⟨rfl, rfl⟩ := hq
    refine ⟨_, _, CC 0 (pl_U (pl_U (pl_U v 0 (as_tens none p ten R)) 1 (as_over none p ten R)) 2 (as_stay none p ten R)) b s (im_up (im_up (im_up (im_up (im_up (im_up (im_up (im_up (im_up wd 0 p) 1 (R 2 p)) 2 (-1)) 3 (R 0 p)) 4 (R 1 p)) 5 (R 3 p)) 6 (R 7 0)) 7 (R 7 3)) 2 (as_over none p ten R)) ++ LC 4 lv R g, rfl, rfl, rfl, ?_⟩
    have hl3 : -1000001000 ≤ as_lat none (as_wd p (as_over none p ten R) R) 2 (1) ∧ as_lat none (as_wd p (as_over none p ten R) R) 2 (1) ≤ 1000001000 := ⟨by show -1000001000 ≤ (1 : Int); omega, by show (1 : Int) ≤ 1000001000; omega⟩
    have hz3 : as_lat none (as_wd p (as_over none p ten R) R) 2 (1) = (1) := rfl
    refine im_g 2 (y := (196, _, _, _)) rfl trivial ?_
    refine im_call [] rfl rfl (c_bounded (x := (as_lat none (as_wd p (as_over none p ten R) R) 2 (1))) (a := 1) (b := 9) (by omega) hT (by omega) (by decide) (by decide)) rfl rfl rfl (by decide) rfl (by decide) hT (fun v1 w1 hq => ?_)
    obtain ⟨rfl, rfl⟩ := hq
    refine ⟨_, _, CC 0 (pl_U (pl_U (pl_U v 0 (as_tens none p ten R)) 1 (as_over none p ten R)) 2 (as_stay none p ten R)) b s (im_up (im_up (im_up (im_up (im_up (im_up (im_up (im_up (im_up wd 0 p) 1 (R 2 p)) 2 (-1)) 3 (R 0 p)) 4 (R 1 p)) 5 (R 3 p)) 6 (R 7 0)) 7 (R 7 3)) 2 (as_over none p ten R)) ++ LC 4 lv R g, rfl, rfl, rfl, ?_⟩
    have e4 : (if (as_lat none (as_wd p (as_over none p ten R) R) 2 (1)) < 1 then 1 else if 9 < (as_lat none (as_wd p (as_over none p ten R) R) 2 (1)) then 9 else (as_lat none (as_wd p (as_over none p ten R) R) 2 (1))) = (as_steps none p ten R) := rfl
    rw [e4]
    refine im_g 6 (y := (208, _, _, _)) rfl trivial ?_
    refine im_call [0,1,2,3] rfl rfl (c_latNo (v := (pl_U (pl_U (pl_U (pl_U v 0 (as_tens none p ten R)) 1 (as_over none p ten R)) 2 (as_stay none p ten R)) 3 (as_steps none p ten R))) (b := b) (s := s) (wd := (im_up (im_up (im_up (im_up (im_up (im_up (im_up (im_up (im_up wd 0 p) 1 (R 2 p)) 2 (-1)) 3 (R 0 p)) 4 (R 1 p)) 5 (R 3 p)) 6 (R 7 0)) 7 (R 7 3)) 2 (as_over none p ten R))) (kind := 3) (x := 0) (by omega) hT) rfl rfl rfl (by decide) rfl (by decide) hT (fun v1 w1 hq => ?_)
    obtain ⟨rfl, rfl⟩ := hq
    refine ⟨_, _, CC 0 (pl_U (pl_U (pl_U (pl_U v 0 (as_tens none p ten R)) 1 (as_over none p ten R)) 2 (as_stay none p ten R)) 3 (as_steps none p ten R)) b s (im_up (im_up (im_up (im_up (im_up (im_up (im_up (im_up (im_up wd 0 p) 1 (R 2 p)) 2 (-1)) 3 (R 0 p)) 4 (R 1 p)) 5 (R 3 p)) 6 (R 7 0)) 7 (R 7 3)) 2 (as_over none p ten R)) ++ LC 4 lv R g, rfl, rfl, rfl, ?_⟩
    have hl4 : -1000001000 ≤ as_lat none (as_wd p (as_over none p ten R) R) 3 (0) ∧ as_lat none (as_wd p (as_over none p ten R) R) 3 (0) ≤ 1000001000 := ⟨by show -1000001000 ≤ (0 : Int); omega, by show (0 : Int) ≤ 1000001000; omega⟩
    have hz4 : as_lat none (as_wd p (as_over none p ten R) R) 3 (0) = (0) := rfl
    refine im_b rfl rfl ⟨(by omega), trivial⟩ (fun j3 => ?_) (fun j3 => ?_)
    · refine im_g 2 (y := (222, _, _, _)) rfl ⟨(by omega), trivial⟩ ?_
      refine im_r rfl rfl trivial rfl ?_
      have eb : (as_bar none p ten R) = 0 := by
        unfold as_bar
        rw [if_pos (by omega)]
      refine ⟨rfl, b, s, (im_up (im_up (im_up (im_up (im_up (im_up (im_up (im_up (im_up wd 0 p) 1 (R 2 p)) 2 (-1)) 3 (R 0 p)) 4 (R 1 p)) 5 (R 3 p)) 6 (R 7 0)) 7 (R 7 3)) 2 (as_over none p ten R)), hb, hs, hw1, ?_⟩
      show _ = CC 0 (as_v none p ten R) b s (im_up (im_up (im_up (im_up (im_up (im_up (im_up (im_up (im_up wd 0 p) 1 (R 2 p)) 2 (-1)) 3 (R 0 p)) 4 (R 1 p)) 5 (R 3 p)) 6 (R 7 0)) 7 (R 7 3)) 2 (as_over none p ten R)) ++ LC 4 lv R g
      show _ = [.inl (0, [mr 1, mr 3, .inl (as_tens none p ten R), .inl (as_over none p ten R), .inl (as_stay none p ten R), .inl (as_steps none p ten R), .inl (as_bar none p ten R)]), .inl (2, [mr 2, .inl b]), .inr (0, 64, .inl s), .inr (0, 8, .inl (im_up (im_up (im_up (im_up (im_up (im_up (im_up (im_up (im_up wd 0 p) 1 (R 2 p)) 2 (-1)) 3 (R 0 p)) 4 (R 1 p)) 5 (R 3 p)) 6 (R 7 0)) 7 (R 7 3)) 2 (as_over none p ten R)))] ++ LC 4 lv R g
      rw [eb]
      rfl
    · refine im_g 3 (y := (222, _, _, _)) rfl ⟨(by omega), trivial⟩ ?_
      refine im_r rfl rfl trivial rfl ?_
      have eb : (as_bar none p ten R) = 1 := by
        unfold as_bar
        rw [if_neg (by omega)]
      refine ⟨rfl, b, s, (im_up (im_up (im_up (im_up (im_up (im_up (im_up (im_up (im_up wd 0 p) 1 (R 2 p)) 2 (-1)) 3 (R 0 p)) 4 (R 1 p)) 5 (R 3 p)) 6 (R 7 0)) 7 (R 7 3)) 2 (as_over none p ten R)), hb, hs, hw1, ?_⟩
      show _ = CC 0 (as_v none p ten R) b s (im_up (im_up (im_up (im_up (im_up (im_up (im_up (im_up (im_up wd 0 p) 1 (R 2 p)) 2 (-1)) 3 (R 0 p)) 4 (R 1 p)) 5 (R 3 p)) 6 (R 7 0)) 7 (R 7 3)) 2 (as_over none p ten R)) ++ LC 4 lv R g
      show _ = [.inl (0, [mr 1, mr 3, .inl (as_tens none p ten R), .inl (as_over none p ten R), .inl (as_stay none p ten R), .inl (as_steps none p ten R), .inl (as_bar none p ten R)]), .inl (2, [mr 2, .inl b]), .inr (0, 64, .inl s), .inr (0, 8, .inl (im_up (im_up (im_up (im_up (im_up (im_up (im_up (im_up (im_up wd 0 p) 1 (R 2 p)) 2 (-1)) 3 (R 0 p)) 4 (R 1 p)) 5 (R 3 p)) 6 (R 7 0)) 7 (R 7 3)) 2 (as_over none p ten R)))] ++ LC 4 lv R g
      rw [eb]
      rfl
set_option maxHeartbeats 8000000 in
theorem c_askIs (hd : 4 ≤ d) (hT : T.length < 1000) {v : Nat → Int} {b : Int} (hb : b = 0 ∨ b = 1) {s : Int → Int} (hs : SOK s) {wd : Int → Int} (hwd : WOK wd) {lv : Nat → Int} {R : Nat → Int → Int} {g : Int → Option Nat} (h : LOK lv R) (hday : R 7 0 ≤ 100000) (hf : 0 ≤ lv 5) {t : Nat} (hg : g (lv 5) = some t) {q : im_T} (hqt : T[t]? = some q) (hq0 : TXOK q) {p ten : Int} (hp : 0 ≤ p ∧ p < lv 0) (hten : 0 ≤ ten ∧ ten ≤ 99) : im_ct ro T d 2 [mr 0, mr 4, .inl p, .inl ten] (CC 0 v b s wd ++ LC 4 lv R g) (fun r w => r = none ∧ ∃ b1 s1 wd1, (b1 = 0 ∨ b1 = 1) ∧ SOK s1 ∧ WOK wd1 ∧ w = CC 0 (as_v (some q) p ten R) b1 s1 wd1 ++ LC 4 lv R g) := by
  obtain ⟨d, rfl⟩ : ∃ e, d = e + 1 := ⟨d - 1, by omega⟩
  have h1 := lk_par h
  have h2 := lk_cnt h p
  have h3 := lk_bel h p
  have h4 := lk_dep h p
  have h5 := lk_wlk h p
  have h6 := lk_trm h
  refine im_ct_of (own := 0) (ret := none) (code := ab_k_X0_ask) (nL := 5) (L0 := [some (mr 0), some (mr 4), some (.inl p), some (.inl ten), none]) (n := 16) rfl rfl rfl rfl rfl rfl rfl rfl rfl ?_
  refine im_g 2 (y := (2, _, _, _)) rfl trivial ?_
  refine im_call [4,5,6,7,8,9,10,11,12,13,14,15] rfl rfl (c_has (v := lv) (R := R) (g := g) (p := p) (by omega) hT (by omega) (by omega)) rfl rfl rfl (by decide) rfl (by decide) hT (fun v1 w1 hq => ?_)
  obtain ⟨rfl, rfl⟩ := hq
  refine ⟨_, _, CC 0 v b s wd ++ LC 4 lv R g, rfl, rfl, rfl, ?_⟩
  refine im_bT rfl rfl ⟨(by omega), trivial⟩ (by omega) ?_
  refine im_g 1 (y := (10, _, _, _)) rfl trivial ?_
  refine im_call [4,5,6,7,8,9,10,11,12,13,14,15] rfl rfl (c_lawIs (v := lv) (R := R) (g := g) (by omega) hT h hf hg) rfl rfl rfl (by decide) rfl (by decide) hT (fun v1 w1 hq => ?_)
  obtain ⟨rfl, rfl⟩ := hq
  refine ⟨_, _, CC 0 v b s wd ++ LC 4 lv R g, rfl, rfl, rfl, ?_⟩
  refine im_g 59 (y := (103, _, _, _)) rfl ⟨(by omega), (by omega), (by omega), (by omega), (by omega), (by omega), (by omega), (by omega), (by omega), (by omega), (by omega), (by omega), (by omega), (by omega), trivial⟩ ?_
  have hw0 : WOK (im_up (im_up (im_up (im_up (im_up (im_up (im_up (im_up wd 0 p) 1 (R 2 p)) 2 (-1)) 3 (R 0 p)) 4 (R 1 p)) 5 (R 3 p)) 6 (R 7 0)) 7 (R 7 3)) := WOK_up (WOK_up (WOK_up (WOK_up (WOK_up (WOK_up (WOK_up (WOK_up hwd (by omega)) (by omega)) (by omega)) (by omega)) (by omega)) (by omega)) (by omega)) (by omega)
  refine im_g 2 (y := (105, _, _, _)) rfl trivial ?_
  refine im_b rfl rfl ⟨(by omega), trivial⟩ (fun j1 => ?_) (fun j1 => ?_)
  · refine im_g 7 (y := (122, _, _, _)) rfl ⟨(by omega), trivial⟩ ?_
    refine im_callx [0,1,2,3] hqt rfl rfl (c_latIs (v := v) (b := b) (s := s) (wd := (im_up (im_up (im_up (im_up (im_up (im_up (im_up (im_up wd 0 p) 1 (R 2 p)) 2 (-1)) 3 (R 0 p)) 4 (R 1 p)) 5 (R 3 p)) 6 (R 7 0)) 7 (R 7 3))) (kind := 0) (x := R 7 1) (T := []) (by omega) (by decide) hq0 hw0 (by decide) (by omega) hb hs) rfl rfl rfl (by decide) rfl (by decide) hT (fun v1 w1 hq => ?_)
    obtain ⟨b1, s1, hb1, hs1, rfl, rfl⟩ := hq
    refine ⟨CC 0 v b1 s1 (im_up (im_up (im_up (im_up (im_up (im_up (im_up (im_up wd 0 p) 1 (R 2 p)) 2 (-1)) 3 (R 0 p)) 4 (R 1 p)) 5 (R 3 p)) 6 (R 7 0)) 7 (R 7 3)), _, _, CC 0 v b1 s1 (im_up (im_up (im_up (im_up (im_up (im_up (im_up (im_up wd 0 p) 1 (R 2 p)) 2 (-1)) 3 (R 0 p)) 4 (R 1 p)) 5 (R 3 p)) 6 (R 7 0)) 7 (R 7 3)) ++ LC 4 lv R g, rfl, rfl, rfl, rfl, ?_⟩
    rw [as_lat_is as_wd_is0]
    have hl1 := as_lat_b hq0 (as_wd p (-1) R) (as_wd_ok h hday (by omega) (by omega)) (kind := 0) (x := R 7 1) (by omega)
    refine im_g 2 (y := (128, _, _, _)) rfl trivial ?_
    refine im_call [] rfl rfl (c_bounded (x := (as_lat (some q) (as_wd p (-1) R) 0 (R 7 1))) (a := 2) (b := 99) (by omega) hT (by omega) (by decide) (by decide)) rfl rfl rfl (by decide) rfl (by decide) hT (fun v1 w1 hq => ?_)
    obtain ⟨rfl, rfl⟩ := hq
    refine ⟨_, _, CC 0 v b1 s1 (im_up (im_up (im_up (im_up (im_up (im_up (im_up (im_up wd 0 p) 1 (R 2 p)) 2 (-1)) 3 (R 0 p)) 4 (R 1 p)) 5 (R 3 p)) 6 (R 7 0)) 7 (R 7 3)) ++ LC 4 lv R g, rfl, rfl, rfl, ?_⟩
    have e1 : (if (as_lat (some q) (as_wd p (-1) R) 0 (R 7 1)) < 2 then 2 else if 99 < (as_lat (some q) (as_wd p (-1) R) 0 (R 7 1)) then 99 else (as_lat (some q) (as_wd p (-1) R) 0 (R 7 1))) = (as_tens (some q) p ten R) := by
      show bd (as_lat (some q) (as_wd p (-1) R) 0 (R 7 1)) 2 99 = _
      unfold as_tens
      rw [if_neg (by omega)]
    rw [e1]
    have ht := as_tens_b (some q) p ten R
    refine im_g 9 (y := (146, _, _, _)) rfl ⟨(by omega), (by omega), (by omega), (by omega), trivial⟩ ?_
    have e2 : (R 2 p).tmod (as_tens (some q) p ten R) = (as_over (some q) p ten R) := Int.tmod_eq_emod_of_nonneg (by omega)
    rw [e2]
    have ho := as_over_b (some q) p ten R
    have hw1 : WOK (im_up (im_up (im_up (im_up (im_up (im_up (im_up (im_up (im_up wd 0 p) 1 (R 2 p)) 2 (-1)) 3 (R 0 p)) 4 (R 1 p)) 5 (R 3 p)) 6 (R 7 0)) 7 (R 7 3)) 2 (as_over (some q) p ten R)) := WOK_up hw0 (by omega)
    refine im_g 14 (y := (169, _, _, _)) rfl ⟨(by omega), trivial⟩ ?_
    refine im_callx [0,1,2,3] hqt rfl rfl (c_latIs (v := (pl_U (pl_U v 0 (as_tens (some q) p ten R)) 1 (as_over (some q) p ten R))) (b := b1) (s := s1) (wd := (im_up (im_up (im_up (im_up (im_up (im_up (im_up (im_up (im_up wd 0 p) 1 (R 2 p)) 2 (-1)) 3 (R 0 p)) 4 (R 1 p)) 5 (R 3 p)) 6 (R 7 0)) 7 (R 7 3)) 2 (as_over (some q) p ten R))) (kind := 1) (x := 0) (T := []) (by omega) (by decide) hq0 hw1 (by decide) (by omega) hb1 hs1) rfl rfl rfl (by decide) rfl (by decide) hT (fun v1 w1 hq => ?_)
    obtain ⟨b2, s2, hb2, hs2, rfl, rfl⟩ := hq
    refine ⟨CC 0 (pl_U (pl_U v 0 (as_tens (some q) p ten R)) 1 (as_over (some q) p ten R)) b2 s2 (im_up (im_up (im_up (im_up (im_up (im_up (im_up (im_up (im_up wd 0 p) 1 (R 2 p)) 2 (-1)) 3 (R 0 p)) 4 (R 1 p)) 5 (R 3 p)) 6 (R 7 0)) 7 (R 7 3)) 2 (as_over (some q) p ten R)), _, _, CC 0 (pl_U (pl_U v 0 (as_tens (some q) p ten R)) 1 (as_over (some q) p ten R)) b2 s2 (im_up (im_up (im_up (im_up (im_up (im_up (im_up (im_up (im_up wd 0 p) 1 (R 2 p)) 2 (-1)) 3 (R 0 p)) 4 (R 1 p)) 5 (R 3 p)) 6 (R 7 0)) 7 (R 7 3)) 2 (as_over (some q) p ten R)) ++ LC 4 lv R g, rfl, rfl, rfl, rfl, ?_⟩
    rw [as_lat_is (as_wd_is (-1))]
    have hl2 := as_lat_b hq0 (as_wd p (as_over (some q) p ten R) R) (as_wd_ok h hday (by omega) (by omega)) (kind := 1) (x := 0) (by omega)
    refine im_g 2 (y := (175, _, _, _)) rfl trivial ?_
    refine im_call [] rfl rfl (c_bounded (x := (as_lat (some q) (as_wd p (as_over (some q) p ten R) R) 1 (0))) (a := 0) (b := 98) (by omega) hT (by omega) (by decide) (by decide)) rfl rfl rfl (by decide) rfl (by decide) hT (fun v1 w1 hq => ?_)
    obtain ⟨rfl, rfl⟩ := hq
    refine ⟨_, _, CC 0 (pl_U (pl_U v 0 (as_tens (some q) p ten R)) 1 (as_over (some q) p ten R)) b2 s2 (im_up (im_up (im_up (im_up (im_up (im_up (im_up (im_up (im_up wd 0 p) 1 (R 2 p)) 2 (-1)) 3 (R 0 p)) 4 (R 1 p)) 5 (R 3 p)) 6 (R 7 0)) 7 (R 7 3)) 2 (as_over (some q) p ten R)) ++ LC 4 lv R g, rfl, rfl, rfl, ?_⟩
    have e3 : min (as_over (some q) p ten R) (if (as_lat (some q) (as_wd p (as_over (some q) p ten R) R) 1 (0)) < 0 then 0 else if 98 < (as_lat (some q) (as_wd p (as_over (some q) p ten R) R) 1 (0)) then 98 else (as_lat (some q) (as_wd p (as_over (some q) p ten R) R) 1 (0))) = (as_stay (some q) p ten R) := rfl
    have hb9 := bd_b (x := (as_lat (some q) (as_wd p (as_over (some q) p ten R) R) 1 (0))) (a := 0) (b := 98) (by decide)
    unfold bd at hb9
    refine im_g 1 (y := (181, _, _, _)) rfl ⟨(by omega), (by omega), trivial⟩ ?_
    rw [e3]
    have hst := as_stay_b (some q) p ten R
    have hsp := as_steps_b (some q) p ten R
    refine im_g 6 (y := (190, _, _, _)) rfl trivial ?_
    refine im_callx [0,1,2,3] hqt rfl rfl (c_latIs (v := (pl_U (pl_U (pl_U v 0 (as_tens (some q) p ten R)) 1 (as_over (some q) p ten R)) 2 (as_stay (some q) p ten R))) (b := b2) (s := s2) (wd := (im_up (im_up (im_up (im_up (im_up (im_up (im_up (im_up (im_up wd 0 p) 1 (R 2 p)) 2 (-1)) 3 (R 0 p)) 4 (R 1 p)) 5 (R 3 p)) 6 (R 7 0)) 7 (R 7 3)) 2 (as_over (some q) p ten R))) (kind := 2) (x := 1) (T := []) (by omega) (by decide) hq0 hw1 (by decide) (by omega) hb2 hs2) rfl rfl rfl (by decide) rfl (by decide) hT (fun v1 w1 hq => ?_)
    obtain ⟨b3, s3, hb3, hs3, rfl, rfl⟩ := hq
    refine ⟨CC 0 (pl_U (pl_U (pl_U v 0 (as_tens (some q) p ten R)) 1 (as_over (some q) p ten R)) 2 (as_stay (some q) p ten R)) b3 s3 (im_up (im_up (im_up (im_up (im_up (im_up (im_up (im_up (im_up wd 0 p) 1 (R 2 p)) 2 (-1)) 3 (R 0 p)) 4 (R 1 p)) 5 (R 3 p)) 6 (R 7 0)) 7 (R 7 3)) 2 (as_over (some q) p ten R)), _, _, CC 0 (pl_U (pl_U (pl_U v 0 (as_tens (some q) p ten R)) 1 (as_over (some q) p ten R)) 2 (as_stay (some q) p ten R)) b3 s3 (im_up (im_up (im_up (im_up (im_up (im_up (im_up (im_up (im_up wd 0 p) 1 (R 2 p)) 2 (-1)) 3 (R 0 p)) 4 (R 1 p)) 5 (R 3 p)) 6 (R 7 0)) 7 (R 7 3)) 2 (as_over (some q) p ten R)) ++ LC 4 lv R g, rfl, rfl, rfl, rfl, ?_⟩
    rw [as_lat_is (as_wd_is (-1))]
    have hl3 := as_lat_b hq0 (as_wd p (as_over (some q) p ten R) R) (as_wd_ok h hday (by omega) (by omega)) (kind := 2) (x := 1) (by omega)
    refine im_g 2 (y := (196, _, _, _)) rfl trivial ?_
    refine im_call [] rfl rfl (c_bounded (x := (as_lat (some q) (as_wd p (as_over (some q) p ten R) R) 2 (1))) (a := 1) (b := 9) (by omega) hT (by omega) (by decide) (by decide)) rfl rfl rfl (by decide) rfl (by decide) hT (fun v1 w1 hq => ?_)
    obtain ⟨rfl, rfl⟩ := hq
    refine ⟨_, _, CC 0 (pl_U (pl_U (pl_U v 0 (as_tens (some q) p ten R)) 1 (as_over (some q) p ten R)) 2 (as_stay (some q) p ten R)) b3 s3 (im_up (im_up (im_up (im_up (im_up (im_up (im_up (im_up (im_up wd 0 p) 1 (R 2 p)) 2 (-1)) 3 (R 0 p)) 4 (R 1 p)) 5 (R 3 p)) 6 (R 7 0)) 7 (R 7 3)) 2 (as_over (some q) p ten R)) ++ LC 4 lv R g, rfl, rfl, rfl, ?_⟩
    have e4 : (if (as_lat (some q) (as_wd p (as_over (some q) p ten R) R) 2 (1)) < 1 then 1 else if 9 < (as_lat (some q) (as_wd p (as_over (some q) p ten R) R) 2 (1)) then 9 else (as_lat (some q) (as_wd p (as_over (some q) p ten R) R) 2 (1))) = (as_steps (some q) p ten R) := rfl
    rw [e4]
    refine im_g 6 (y := (208, _, _, _)) rfl trivial ?_
    refine im_callx [0,1,2,3] hqt rfl rfl (c_latIs (v := (pl_U (pl_U (pl_U (pl_U v 0 (as_tens (some q) p ten R)) 1 (as_over (some q) p ten R)) 2 (as_stay (some q) p ten R)) 3 (as_steps (some q) p ten R))) (b := b3) (s := s3) (wd := (im_up (im_up (im_up (im_up (im_up (im_up (im_up (im_up (im_up wd 0 p) 1 (R 2 p)) 2 (-1)) 3 (R 0 p)) 4 (R 1 p)) 5 (R 3 p)) 6 (R 7 0)) 7 (R 7 3)) 2 (as_over (some q) p ten R))) (kind := 3) (x := 0) (T := []) (by omega) (by decide) hq0 hw1 (by decide) (by omega) hb3 hs3) rfl rfl rfl (by decide) rfl (by decide) hT (fun v1 w1 hq => ?_)
    obtain ⟨b4, s4, hb4, hs4, rfl, rfl⟩ := hq
    refine ⟨CC 0 (pl_U (pl_U (pl_U (pl_U v 0 (as_tens (some q) p ten R)) 1 (as_over (some q) p ten R)) 2 (as_stay (some q) p ten R)) 3 (as_steps (some q) p ten R)) b4 s4 (im_up (im_up (im_up (im_up (im_up (im_up (im_up (im_up (im_up wd 0 p) 1 (R 2 p)) 2 (-1)) 3 (R 0 p)) 4 (R 1 p)) 5 (R 3 p)) 6 (R 7 0)) 7 (R 7 3)) 2 (as_over (some q) p ten R)), _, _, CC 0 (pl_U (pl_U (pl_U (pl_U v 0 (as_tens (some q) p ten R)) 1 (as_over (some q) p ten R)) 2 (as_stay (some q) p ten R)) 3 (as_steps (some q) p ten R)) b4 s4 (im_up (im_up (im_up (im_up (im_up (im_up (im_up (im_up (im_up wd 0 p) 1 (R 2 p)) 2 (-1)) 3 (R 0 p)) 4 (R 1 p)) 5 (R 3 p)) 6 (R 7 0)) 7 (R 7 3)) 2 (as_over (some q) p ten R)) ++ LC 4 lv R g, rfl, rfl, rfl, rfl, ?_⟩
    rw [as_lat_is (as_wd_is (-1))]
    have hl4 := as_lat_b hq0 (as_wd p (as_over (some q) p ten R) R) (as_wd_ok h hday (by omega) (by omega)) (kind := 3) (x := 0) (by omega)
    refine im_b rfl rfl ⟨(by omega), trivial⟩ (fun j2 => ?_) (fun j2 => ?_)
    · refine im_g 2 (y := (222, _, _, _)) rfl ⟨(by omega), trivial⟩ ?_
      refine im_r rfl rfl trivial rfl ?_
      have eb : (as_bar (some q) p ten R) = 0 := by
        unfold as_bar
        rw [if_pos (by omega)]
      refine ⟨rfl, b4, s4, (im_up (im_up (im_up (im_up (im_up (im_up (im_up (im_up (im_up wd 0 p) 1 (R 2 p)) 2 (-1)) 3 (R 0 p)) 4 (R 1 p)) 5 (R 3 p)) 6 (R 7 0)) 7 (R 7 3)) 2 (as_over (some q) p ten R)), hb4, hs4, hw1, ?_⟩
      show _ = CC 0 (as_v (some q) p ten R) b4 s4 (im_up (im_up (im_up (im_up (im_up (im_up (im_up (im_up (im_up wd 0 p) 1 (R 2 p)) 2 (-1)) 3 (R 0 p)) 4 (R 1 p)) 5 (R 3 p)) 6 (R 7 0)) 7 (R 7 3)) 2 (as_over (some q) p ten R)) ++ LC 4 lv R g
      show _ = [.inl (0, [mr 1, mr 3, .inl (as_tens (some q) p ten R), .inl (as_over (some q) p ten R), .inl (as_stay (some q) p ten R), .inl (as_steps (some q) p ten R), .inl (as_bar (some q) p ten R)]), .inl (2, [mr 2, .inl b4]), .inr (0, 64, .inl s4), .inr (0, 8, .inl (im_up (im_up (im_up (im_up (im_up (im_up (im_up (im_up (im_up wd 0 p) 1 (R 2 p)) 2 (-1)) 3 (R 0 p)) 4 (R 1 p)) 5 (R 3 p)) 6 (R 7 0)) 7 (R 7 3)) 2 (as_over (some q) p ten R)))] ++ LC 4 lv R g
      rw [eb]
      rfl
    · refine im_g 3 (y := (222, _, _, _)) rfl ⟨(by omega), trivial⟩ ?_
      refine im_r rfl rfl trivial rfl ?_
      have eb : (as_bar (some q) p ten R) = 1 := by
        unfold as_bar
        rw [if_neg (by omega)]
      refine ⟨rfl, b4, s4, (im_up (im_up (im_up (im_up (im_up (im_up (im_up (im_up (im_up wd 0 p) 1 (R 2 p)) 2 (-1)) 3 (R 0 p)) 4 (R 1 p)) 5 (R 3 p)) 6 (R 7 0)) 7 (R 7 3)) 2 (as_over (some q) p ten R)), hb4, hs4, hw1, ?_⟩
      show _ = CC 0 (as_v (some q) p ten R) b4 s4 (im_up (im_up (im_up (im_up (im_up (im_up (im_up (im_up (im_up wd 0 p) 1 (R 2 p)) 2 (-1)) 3 (R 0 p)) 4 (R 1 p)) 5 (R 3 p)) 6 (R 7 0)) 7 (R 7 3)) 2 (as_over (some q) p ten R)) ++ LC 4 lv R g
      show _ = [.inl (0, [mr 1, mr 3, .inl (as_tens (some q) p ten R), .inl (as_over (some q) p ten R), .inl (as_stay (some q) p ten R), .inl (as_steps (some q) p ten R), .inl (as_bar (some q) p ten R)]), .inl (2, [mr 2, .inl b4]), .inr (0, 64, .inl s4), .inr (0, 8, .inl (im_up (im_up (im_up (im_up (im_up (im_up (im_up (im_up (im_up wd 0 p) 1 (R 2 p)) 2 (-1)) 3 (R 0 p)) 4 (R 1 p)) 5 (R 3 p)) 6 (R 7 0)) 7 (R 7 3)) 2 (as_over (some q) p ten R)))] ++ LC 4 lv R g
      rw [eb]
      rfl
  · refine im_g 2 (y := (125, _, _, _)) rfl trivial ?_
    refine im_g 2 (y := (128, _, _, _)) rfl trivial ?_
    refine im_call [] rfl rfl (c_bounded (x := ten) (a := 2) (b := 99) (by omega) hT (by omega) (by decide) (by decide)) rfl rfl rfl (by decide) rfl (by decide) hT (fun v1 w1 hq => ?_)
    obtain ⟨rfl, rfl⟩ := hq
    refine ⟨_, _, CC 0 v b s (im_up (im_up (im_up (im_up (im_up (im_up (im_up (im_up wd 0 p) 1 (R 2 p)) 2 (-1)) 3 (R 0 p)) 4 (R 1 p)) 5 (R 3 p)) 6 (R 7 0)) 7 (R 7 3)) ++ LC 4 lv R g, rfl, rfl, rfl, ?_⟩
    have e1 : (if ten < 2 then 2 else if 99 < ten then 99 else ten) = (as_tens (some q) p ten R) := by
      show bd ten 2 99 = _
      unfold as_tens
      rw [if_pos (by omega)]
    rw [e1]
    have ht := as_tens_b (some q) p ten R
    refine im_g 9 (y := (146, _, _, _)) rfl ⟨(by omega), (by omega), (by omega), (by omega), trivial⟩ ?_
    have e2 : (R 2 p).tmod (as_tens (some q) p ten R) = (as_over (some q) p ten R) := Int.tmod_eq_emod_of_nonneg (by omega)
    rw [e2]
    have ho := as_over_b (some q) p ten R
    have hw1 : WOK (im_up (im_up (im_up (im_up (im_up (im_up (im_up (im_up (im_up wd 0 p) 1 (R 2 p)) 2 (-1)) 3 (R 0 p)) 4 (R 1 p)) 5 (R 3 p)) 6 (R 7 0)) 7 (R 7 3)) 2 (as_over (some q) p ten R)) := WOK_up hw0 (by omega)
    refine im_g 14 (y := (169, _, _, _)) rfl ⟨(by omega), trivial⟩ ?_
    refine im_callx [0,1,2,3] hqt rfl rfl (c_latIs (v := (pl_U (pl_U v 0 (as_tens (some q) p ten R)) 1 (as_over (some q) p ten R))) (b := b) (s := s) (wd := (im_up (im_up (im_up (im_up (im_up (im_up (im_up (im_up (im_up wd 0 p) 1 (R 2 p)) 2 (-1)) 3 (R 0 p)) 4 (R 1 p)) 5 (R 3 p)) 6 (R 7 0)) 7 (R 7 3)) 2 (as_over (some q) p ten R))) (kind := 1) (x := 0) (T := []) (by omega) (by decide) hq0 hw1 (by decide) (by omega) hb hs) rfl rfl rfl (by decide) rfl (by decide) hT (fun v1 w1 hq => ?_)
    obtain ⟨b2, s2, hb2, hs2, rfl, rfl⟩ := hq
    refine ⟨CC 0 (pl_U (pl_U v 0 (as_tens (some q) p ten R)) 1 (as_over (some q) p ten R)) b2 s2 (im_up (im_up (im_up (im_up (im_up (im_up (im_up (im_up (im_up wd 0 p) 1 (R 2 p)) 2 (-1)) 3 (R 0 p)) 4 (R 1 p)) 5 (R 3 p)) 6 (R 7 0)) 7 (R 7 3)) 2 (as_over (some q) p ten R)), _, _, CC 0 (pl_U (pl_U v 0 (as_tens (some q) p ten R)) 1 (as_over (some q) p ten R)) b2 s2 (im_up (im_up (im_up (im_up (im_up (im_up (im_up (im_up (im_up wd 0 p) 1 (R 2 p)) 2 (-1)) 3 (R 0 p)) 4 (R 1 p)) 5 (R 3 p)) 6 (R 7 0)) 7 (R 7 3)) 2 (as_over (some q) p ten R)) ++ LC 4 lv R g, rfl, rfl, rfl, rfl, ?_⟩
    rw [as_lat_is (as_wd_is (-1))]
    have hl2 := as_lat_b hq0 (as_wd p (as_over (some q) p ten R) R) (as_wd_ok h hday (by omega) (by omega)) (kind := 1) (x := 0) (by omega)
    refine im_g 2 (y := (175, _, _, _)) rfl trivial ?_
    refine im_call [] rfl rfl (c_bounded (x := (as_lat (some q) (as_wd p (as_over (some q) p ten R) R) 1 (0))) (a := 0) (b := 98) (by omega) hT (by omega) (by decide) (by decide)) rfl rfl rfl (by decide) rfl (by decide) hT (fun v1 w1 hq => ?_)
    obtain ⟨rfl, rfl⟩ := hq
    refine ⟨_, _, CC 0 (pl_U (pl_U v 0 (as_tens (some q) p ten R)) 1 (as_over (some q) p ten R)) b2 s2 (im_up (im_up (im_up (im_up (im_up (im_up (im_up (im_up (im_up wd 0 p) 1 (R 2 p)) 2 (-1)) 3 (R 0 p)) 4 (R 1 p)) 5 (R 3 p)) 6 (R 7 0)) 7 (R 7 3)) 2 (as_over (some q) p ten R)) ++ LC 4 lv R g, rfl, rfl, rfl, ?_⟩
    have e3 : min (as_over (some q) p ten R) (if (as_lat (some q) (as_wd p (as_over (some q) p ten R) R) 1 (0)) < 0 then 0 else if 98 < (as_lat (some q) (as_wd p (as_over (some q) p ten R) R) 1 (0)) then 98 else (as_lat (some q) (as_wd p (as_over (some q) p ten R) R) 1 (0))) = (as_stay (some q) p ten R) := rfl
    have hb9 := bd_b (x := (as_lat (some q) (as_wd p (as_over (some q) p ten R) R) 1 (0))) (a := 0) (b := 98) (by decide)
    unfold bd at hb9
    refine im_g 1 (y := (181, _, _, _)) rfl ⟨(by omega), (by omega), trivial⟩ ?_
    rw [e3]
    have hst := as_stay_b (some q) p ten R
    have hsp := as_steps_b (some q) p ten R
    refine im_g 6 (y := (190, _, _, _)) rfl trivial ?_
    refine im_callx [0,1,2,3] hqt rfl rfl (c_latIs (v := (pl_U (pl_U (pl_U v 0 (as_tens (some q) p ten R)) 1 (as_over (some q) p ten R)) 2 (as_stay (some q) p ten R))) (b := b2) (s := s2) (wd := (im_up (im_up (im_up (im_up (im_up (im_up (im_up (im_up (im_up wd 0 p) 1 (R 2 p)) 2 (-1)) 3 (R 0 p)) 4 (R 1 p)) 5 (R 3 p)) 6 (R 7 0)) 7 (R 7 3)) 2 (as_over (some q) p ten R))) (kind := 2) (x := 1) (T := []) (by omega) (by decide) hq0 hw1 (by decide) (by omega) hb2 hs2) rfl rfl rfl (by decide) rfl (by decide) hT (fun v1 w1 hq => ?_)
    obtain ⟨b3, s3, hb3, hs3, rfl, rfl⟩ := hq
    refine ⟨CC 0 (pl_U (pl_U (pl_U v 0 (as_tens (some q) p ten R)) 1 (as_over (some q) p ten R)) 2 (as_stay (some q) p ten R)) b3 s3 (im_up (im_up (im_up (im_up (im_up (im_up (im_up (im_up (im_up wd 0 p) 1 (R 2 p)) 2 (-1)) 3 (R 0 p)) 4 (R 1 p)) 5 (R 3 p)) 6 (R 7 0)) 7 (R 7 3)) 2 (as_over (some q) p ten R)), _, _, CC 0 (pl_U (pl_U (pl_U v 0 (as_tens (some q) p ten R)) 1 (as_over (some q) p ten R)) 2 (as_stay (some q) p ten R)) b3 s3 (im_up (im_up (im_up (im_up (im_up (im_up (im_up (im_up (im_up wd 0 p) 1 (R 2 p)) 2 (-1)) 3 (R 0 p)) 4 (R 1 p)) 5 (R 3 p)) 6 (R 7 0)) 7 (R 7 3)) 2 (as_over (some q) p ten R)) ++ LC 4 lv R g, rfl, rfl, rfl, rfl, ?_⟩
    rw [as_lat_is (as_wd_is (-1))]
    have hl3 := as_lat_b hq0 (as_wd p (as_over (some q) p ten R) R) (as_wd_ok h hday (by omega) (by omega)) (kind := 2) (x := 1) (by omega)
    refine im_g 2 (y := (196, _, _, _)) rfl trivial ?_
    refine im_call [] rfl rfl (c_bounded (x := (as_lat (some q) (as_wd p (as_over (some q) p ten R) R) 2 (1))) (a := 1) (b := 9) (by omega) hT (by omega) (by decide) (by decide)) rfl rfl rfl (by decide) rfl (by decide) hT (fun v1 w1 hq => ?_)
    obtain ⟨rfl, rfl⟩ := hq
    refine ⟨_, _, CC 0 (pl_U (pl_U (pl_U v 0 (as_tens (some q) p ten R)) 1 (as_over (some q) p ten R)) 2 (as_stay (some q) p ten R)) b3 s3 (im_up (im_up (im_up (im_up (im_up (im_up (im_up (im_up (im_up wd 0 p) 1 (R 2 p)) 2 (-1)) 3 (R 0 p)) 4 (R 1 p)) 5 (R 3 p)) 6 (R 7 0)) 7 (R 7 3)) 2 (as_over (some q) p ten R)) ++ LC 4 lv R g, rfl, rfl, rfl, ?_⟩
    have e4 : (if (as_lat (some q) (as_wd p (as_over (some q) p ten R) R) 2 (1)) < 1 then 1 else if 9 < (as_lat (some q) (as_wd p (as_over (some q) p ten R) R) 2 (1)) then 9 else (as_lat (some q) (as_wd p (as_over (some q) p ten R) R) 2 (1))) = (as_steps (some q) p ten R) := rfl
    rw [e4]
    refine im_g 6 (y := (208, _, _, _)) rfl trivial ?_
    refine im_callx [0,1,2,3] hqt rfl rfl (c_latIs (v := (pl_U (pl_U (pl_U (pl_U v 0 (as_tens (some q) p ten R)) 1 (as_over (some q) p ten R)) 2 (as_stay (some q) p ten R)) 3 (as_steps (some q) p ten R))) (b := b3) (s := s3) (wd := (im_up (im_up (im_up (im_up (im_up (im_up (im_up (im_up (im_up wd 0 p) 1 (R 2 p)) 2 (-1)) 3 (R 0 p)) 4 (R 1 p)) 5 (R 3 p)) 6 (R 7 0)) 7 (R 7 3)) 2 (as_over (some q) p ten R))) (kind := 3) (x := 0) (T := []) (by omega) (by decide) hq0 hw1 (by decide) (by omega) hb3 hs3) rfl rfl rfl (by decide) rfl (by decide) hT (fun v1 w1 hq => ?_)
    obtain ⟨b4, s4, hb4, hs4, rfl, rfl⟩ := hq
    refine ⟨CC 0 (pl_U (pl_U (pl_U (pl_U v 0 (as_tens (some q) p ten R)) 1 (as_over (some q) p ten R)) 2 (as_stay (some q) p ten R)) 3 (as_steps (some q) p ten R)) b4 s4 (im_up (im_up (im_up (im_up (im_up (im_up (im_up (im_up (im_up wd 0 p) 1 (R 2 p)) 2 (-1)) 3 (R 0 p)) 4 (R 1 p)) 5 (R 3 p)) 6 (R 7 0)) 7 (R 7 3)) 2 (as_over (some q) p ten R)), _, _, CC 0 (pl_U (pl_U (pl_U (pl_U v 0 (as_tens (some q) p ten R)) 1 (as_over (some q) p ten R)) 2 (as_stay (some q) p ten R)) 3 (as_steps (some q) p ten R)) b4 s4 (im_up (im_up (im_up (im_up (im_up (im_up (im_up (im_up (im_up wd 0 p) 1 (R 2 p)) 2 (-1)) 3 (R 0 p)) 4 (R 1 p)) 5 (R 3 p)) 6 (R 7 0)) 7 (R 7 3)) 2 (as_over (some q) p ten R)) ++ LC 4 lv R g, rfl, rfl, rfl, rfl, ?_⟩
    rw [as_lat_is (as_wd_is (-1))]
    have hl4 := as_lat_b hq0 (as_wd p (as_over (some q) p ten R) R) (as_wd_ok h hday (by omega) (by omega)) (kind := 3) (x := 0) (by omega)
    refine im_b rfl rfl ⟨(by omega), trivial⟩ (fun j3 => ?_) (fun j3 => ?_)
    · refine im_g 2 (y := (222, _, _, _)) rfl ⟨(by omega), trivial⟩ ?_
      refine im_r rfl rfl trivial rfl ?_
      have eb : (as_bar (some q) p ten R) = 0 := by
        unfold as_bar
        rw [if_pos (by omega)]
      refine ⟨rfl, b4, s4, (im_up (im_up (im_up (im_up (im_up (im_up (im_up (im_up (im_up wd 0 p) 1 (R 2 p)) 2 (-1)) 3 (R 0 p)) 4 (R 1 p)) 5 (R 3 p)) 6 (R 7 0)) 7 (R 7 3)) 2 (as_over (some q) p ten R)), hb4, hs4, hw1, ?_⟩
      show _ = CC 0 (as_v (some q) p ten R) b4 s4 (im_up (im_up (im_up (im_up (im_up (im_up (im_up (im_up (im_up wd 0 p) 1 (R 2 p)) 2 (-1)) 3 (R 0 p)) 4 (R 1 p)) 5 (R 3 p)) 6 (R 7 0)) 7 (R 7 3)) 2 (as_over (some q) p ten R)) ++ LC 4 lv R g
      show _ = [.inl (0, [mr 1, mr 3, .inl (as_tens (some q) p ten R), .inl (as_over (some q) p ten R), .inl (as_stay (some q) p ten R), .inl (as_steps (some q) p ten R), .inl (as_bar (some q) p ten R)]), .inl (2, [mr 2, .inl b4]), .inr (0, 64, .inl s4), .inr (0, 8, .inl (im_up (im_up (im_up (im_up (im_up (im_up (im_up (im_up (im_up wd 0 p) 1 (R 2 p)) 2 (-1)) 3 (R 0 p)) 4 (R 1 p)) 5 (R 3 p)) 6 (R 7 0)) 7 (R 7 3)) 2 (as_over (some q) p ten R)))] ++ LC 4 lv R g
      rw [eb]
      rfl
    · refine im_g 3 (y := (222, _, _, _)) rfl ⟨(by omega), trivial⟩ ?_
      refine im_r rfl rfl trivial rfl ?_
      have eb : (as_bar (some q) p ten R) = 1 := by
        unfold as_bar
        rw [if_neg (by omega)]
      refine ⟨rfl, b4, s4, (im_up (im_up (im_up (im_up (im_up (im_up (im_up (im_up (im_up wd 0 p) 1 (R 2 p)) 2 (-1)) 3 (R 0 p)) 4 (R 1 p)) 5 (R 3 p)) 6 (R 7 0)) 7 (R 7 3)) 2 (as_over (some q) p ten R)), hb4, hs4, hw1, ?_⟩
      show _ = CC 0 (as_v (some q) p ten R) b4 s4 (im_up (im_up (im_up (im_up (im_up (im_up (im_up (im_up (im_up wd 0 p) 1 (R 2 p)) 2 (-1)) 3 (R 0 p)) 4 (R 1 p)) 5 (R 3 p)) 6 (R 7 0)) 7 (R 7 3)) 2 (as_over (some q) p ten R)) ++ LC 4 lv R g
      show _ = [.inl (0, [mr 1, mr 3, .inl (as_tens (some q) p ten R), .inl (as_over (some q) p ten R), .inl (as_stay (some q) p ten R), .inl (as_steps (some q) p ten R), .inl (as_bar (some q) p ten R)]), .inl (2, [mr 2, .inl b4]), .inr (0, 64, .inl s4), .inr (0, 8, .inl (im_up (im_up (im_up (im_up (im_up (im_up (im_up (im_up (im_up wd 0 p) 1 (R 2 p)) 2 (-1)) 3 (R 0 p)) 4 (R 1 p)) 5 (R 3 p)) 6 (R 7 0)) 7 (R 7 3)) 2 (as_over (some q) p ten R)))] ++ LC 4 lv R g
      rw [eb]
      rfl
end As
