theorem zr_26 : ∀ x, x < 1000 → nI x - nI x / 26 * 26 = nI (x % 26) := by decide +kernel
theorem zr_100 : ∀ x, x < 1000 → nI x - nI x / 100 * 100 = nI (x % 100) := by decide +kernel
theorem zr_4 : ∀ x, x < 1000 → nI x - nI x / 4 * 4 = nI (x % 4) := by decide +kernel
theorem zr_101 : ∀ x, x < 1000 → nI x - nI x / 101 * 101 = nI (x % 101) := by decide +kernel
theorem zr_c : ∀ c, c < 128 → ((nI c).toUInt32 % 65536).toInt32 = nI c := by decide
theorem zr_97 : ∀ c, c < 26 → (97 : Int32) + nI c = nI (97 + c) := by decide
theorem tx_dle (v : Nat) : (tx_d v).length ≤ if v < 100 then 2 else 3 := by
  rw [tx_len]; split <;> split <;> first | omega | simp_all
theorem tx_dig {v : Nat} (hv : v < 101) : ∀ c ∈ tx_d v, c < 128 := by
  intro c hc
  unfold tx_d at hc
  split at hc
  · simp only [List.mem_cons, List.not_mem_nil, or_false] at hc; omega
  · split at hc
    · simp only [List.mem_cons, List.not_mem_nil, or_false] at hc; omega
    · simp only [List.mem_cons, List.not_mem_nil, or_false] at hc; omega
theorem tx_app {A B : List Nat} (hA : ∀ c ∈ A, c < 128) (hB : ∀ c ∈ B, c < 128) : ∀ c ∈ A ++ B, c < 128 := fun c hc => (List.mem_append.mp hc).elim (hA c) (hB c)
theorem tx_b_ok {a x v : Nat} (ha : a < 100) : (∀ c ∈ tx_b a x v, c < 128) ∧ (tx_b a x v).length ≤ 12 := by
  unfold tx_b
  have h1 := tx_dle (x % 101)
  have h2 := tx_dle a
  have e1 : x % 101 < 101 := Nat.mod_lt _ (by decide)
  split
  · exact ⟨by decide, by decide⟩
  · split
    · refine ⟨tx_app (by decide) (tx_dig e1), ?_⟩
      rw [List.length_append]
      split at h1 <;> simp only [List.length_cons, List.length_nil] <;> omega
    · split
      · refine ⟨tx_app (tx_app (by decide) (tx_dig (by omega))) (by decide), ?_⟩
        rw [List.length_append, List.length_append]
        split at h2 <;> simp only [List.length_cons, List.length_nil] <;> omega
      · exact ⟨by decide, by decide⟩
theorem tx_n_ok {a v x s : Nat} (ha : a < 100) (hs : s < 128) : (∀ c ∈ tx_n a v x s, c < 128) ∧ (tx_n a v x s).length ≤ 22 := by
  unfold tx_n
  obtain ⟨h1, h2⟩ := tx_b_ok (x := x) (v := v) ha
  have e1 : v % 100 < 100 := Nat.mod_lt _ (by decide)
  have h3 := tx_dle (v % 100)
  rw [if_pos e1] at h3
  have hx : 97 + x % 26 < 128 := by omega
  refine ⟨tx_app (tx_app (tx_app (tx_app (tx_app (by decide) ?_) ?_) (by decide)) (tx_dig (by omega))) h1, ?_⟩
  · intro c hc; rw [List.mem_singleton.mp hc]; exact hx
  · intro c hc; rw [List.mem_singleton.mp hc]; exact hs
  · simp only [List.length_append, List.length_cons, List.length_nil]; omega
set_option maxRecDepth 100000 in
set_option maxHeartbeats 8000000 in
/-- the tail: append, toString, runs, back -/
theorem tz_511 {D : va_G} {t : Nat → ClassId} {aa : gx_AA} {l : Launch} {J : gx_J} {ad : Nat → Nat} {rs : va_W} {σ : CS} {κ k n : Nat} {r : Int32 × CS} (hst : l.stackTraces = false) (g : gx_G D t (gx_E0 aa) l sbR cL_does RL 12 J) {cs : List Nat} {w : va_W} {b : Nat} {L : List (Nat × Value)} (hO : zOut t b cs (kW aa ad t σ rs) w) (h128 : ∀ c ∈ cs, c < 128) (hlen : cs.length < 49) (hr : fL_runs σ cs = some r) (hk : k + 52 ≤ κ + 800) (hκ : κ + 800 ≤ 900) (hn : n + 338 ≤ 6 * (κ + 800)) (hE : ∀ (pc : Nat) (L : List (Nat × Value)), decode cL_does pc = .ok (.ireturn, 1) → narrow .int (.int r.1) = .int r.1 → J (κ + 800) (6 * (κ + 800)) (kW aa ad t r.2 rs) pc L [.int r.1]) : J k n w 514 L [.ref b, .ref (ad 0)] := by
  refine jz_str (pc := 514) g hO ⟨by omega, by omega⟩ (Nat.le_of_ble_eq_true rfl) dL_does_514 (fun a q f hf => ?_)
  refine j_callPESs (pc := 517) (na := 2) (As := [.ref (ad 0), .ref a]) (rest := []) g (gx_CP_of_CM (cL_runs_ (rs := rs) hst h128 hlen hr)) hf q_t_L_runs q_c_L_runs q_l_L_288 q_n_L (by decide +kernel) rfl ⟨Nat.le_of_ble_eq_true rfl, Nat.le_of_ble_eq_true rfl⟩ ⟨by show k + 2 + 50 ≤ 900; omega, by show n + 38 + 6 * 50 ≤ 5400; omega⟩ (Nat.le_of_ble_eq_true rfl) (.refl _) dL_does_517 rfl ?_
  rintro r9 w' ⟨rfl, rfl⟩
  refine j_wid g (k' := κ + 800) (n' := 6 * (κ + 800)) (by omega) (by omega) ?_
  exact hE 520 _ dL_does_520 rfl
set_option maxRecDepth 100000 in
set_option maxHeartbeats 8000000 in
theorem tL_does_377 {D : va_G} {t : Nat → ClassId} {aa : gx_AA} {l : Launch} {J : gx_J} {ad : Nat → Nat} {rs : va_W} {q : (Int32 × LwS)} (hst : l.stackTraces = false) (hxl : xL aa < 2 ^ 31) (g : gx_G D t (gx_E0 aa) l ({ frames := 40, cells := 900, slots := 5400, locals := 900 }) cL_does RL 12 J) (hE : ∀ (v : Int32) (σ : LwS) (pc : Nat) (L : List (Nat × Value)), some (v, σ) = some q → σ.2 ≤ 900 → decode cL_does pc = .ok (.ireturn, 1) → narrow .int (.int v) = .int v → J σ.2 (6 * σ.2) (kW aa ad t σ.1 rs) pc L [.int v]) : ∀ (σ : LwS) (v4 : Int32) (v7 : Int32) (v8 : Int32) (v11 : Int32), fL_does_377 aa σ v4 v7 v8 v11 = some q → J σ.2 (6 * σ.2) (kW aa ad t σ.1 rs) 377 [(3, .ref (ad 0)), (4, .int v4), (7, .int v7), (8, .int v8), (11, .int v11)] [] := by
  intro σ v4 v7 v8 v11 hf0
  unfold fL_does_377 at hf0
  obtain ⟨⟨hk, h4, h4b, h7, h7b, h8, h8b, h11, h11b⟩, hf1⟩ := gx_ck hf0
  obtain ⟨r, hr, hf2⟩ := gx_bs hf1
  clear hf0 hf1
  obtain ⟨a, ia, rfl⟩ := nI_of h4
  rw [nI_clamp ia] at h4b
  obtain ⟨v, iv, rfl⟩ := nI_of h7
  rw [nI_clamp iv] at h7b
  obtain ⟨x, ix, rfl⟩ := nI_of h8
  rw [nI_clamp ix] at h8b
  obtain ⟨s, is, rfl⟩ := nI_of h11
  rw [nI_clamp is] at h11b
  unfold tx_of at hr
  rw [nI_clamp ia, nI_clamp iv, nI_clamp ix, nI_clamp is] at hr
  obtain ⟨hok, hlen⟩ := tx_n_ok (a := a) (v := v) (x := x) (s := s) h4b h11b
  have hv1 : v % 100 < 100 := Nat.mod_lt _ (by decide)
  have hd1 := tx_dle (v % 100)
  rw [if_pos hv1] at hd1
  have hq := Option.some.inj hf2
  have hE2 : ∀ (pc : Nat) (L : List (Nat × Value)), decode cL_does pc = .ok (.ireturn, 1) → narrow .int (.int r.1) = .int r.1 → J (σ.2 + 800) (6 * (σ.2 + 800)) (kW aa ad t r.2 rs) pc L [.int r.1] := fun pc L h1 h2 => hE r.1 (r.2, σ.2 + 800) pc L (by rw [hq]) hk h1 h2
  clear hE hf2 hq
  generalize hκ : σ.2 = κ at hk hE2 ⊢
  refine j_wid g (k' := 100) (n' := 600) (by omega) (by omega) ?_
  refine j_aload_n (pc := 377) g 0 dL_does_377 rfl ?_
  refine jz_new (pc := 378) g ⟨(Nat.le_of_ble_eq_true rfl), (Nat.le_of_ble_eq_true rfl)⟩ (Nat.le_of_ble_eq_true rfl) dL_does_378 dL_does_381 dL_does_382 (fun b w1 hO => ?_)
  refine j_ldcwS (pc := 385) g (fun A U H h => h.2.2.1 ("CommandChainLaw", 260, "flag ", 1) (by decide)) dL_does_385 ?_
  refine jz_S (pc := 388) g hO 1 (by decide) (ds := [102, 108, 97, 103, 32]) rfl (by decide) (Nat.le_of_ble_eq_true rfl) ⟨(Nat.le_of_ble_eq_true rfl), (Nat.le_of_ble_eq_true rfl)⟩ (Nat.le_of_ble_eq_true rfl) dL_does_388 (fun w2 hO => ?_)
  refine j_bipush (v := 97) (pc := 391) g dL_does_391 (by decide) ?_
  refine j_iload (pc := 393) g 3 dL_does_393 rfl ?_
  refine j_bipush (v := 26) (pc := 395) g dL_does_395 (by decide) ?_
  refine j_irem (pc := 397) g dL_does_397 (by decide) ?_
  rw [zr_26 x h8b]
  refine j_iadd (pc := 398) g dL_does_398 ?_
  rw [zr_97 _ (Nat.mod_lt _ (by decide))]
  have hx1 : x % 26 < 26 := Nat.mod_lt _ (by decide)
  refine j_i2c (pc := 399) g dL_does_399 ?_
  rw [zr_c _ (by omega)]
  refine jz_C (pc := 400) g hO (c := 97 + x % 26) (by omega) (Nat.le_of_ble_eq_true rfl) ⟨(Nat.le_of_ble_eq_true rfl), (Nat.le_of_ble_eq_true rfl)⟩ (Nat.le_of_ble_eq_true rfl) dL_does_400 (fun w3 hO => ?_)
  refine j_iload (pc := 403) g 4 dL_does_403 rfl ?_
  refine jz_C (pc := 405) g hO (c := s) h11b (Nat.le_of_ble_eq_true rfl) ⟨(Nat.le_of_ble_eq_true rfl), (Nat.le_of_ble_eq_true rfl)⟩ (Nat.le_of_ble_eq_true rfl) dL_does_405 (fun w4 hO => ?_)
  refine j_ldcwS (pc := 408) g (fun A U H h => h.2.2.1 ("CommandChainLaw", 269, " ", 0) (by decide)) dL_does_408 ?_
  refine jz_S (pc := 411) g hO 0 (by decide) (ds := [32]) rfl (by decide) (Nat.le_of_ble_eq_true rfl) ⟨(Nat.le_of_ble_eq_true rfl), (Nat.le_of_ble_eq_true rfl)⟩ (Nat.le_of_ble_eq_true rfl) dL_does_411 (fun w5 hO => ?_)
  refine j_iload (pc := 414) g 2 dL_does_414 rfl ?_
  refine j_bipush (v := 100) (pc := 416) g dL_does_416 (by decide) ?_
  refine j_irem (pc := 418) g dL_does_418 (by decide) ?_
  rw [zr_100 v h7b]
  refine jz_I (pc := 419) g hO (v := v % 100) (by omega) (by show 8 + _ ≤ 34; omega) ⟨(Nat.le_of_ble_eq_true rfl), (Nat.le_of_ble_eq_true rfl)⟩ (Nat.le_of_ble_eq_true rfl) dL_does_419 (fun w6 hO => ?_)
  have hl8 : ([] ++ [102, 108, 97, 103, 32] ++ [97 + x % 26] ++ [s] ++ [32] ++ tx_d (v % 100)).length ≤ 10 := by simp only [List.length_append, List.length_cons, List.length_nil]; omega
  generalize hcs : ([] ++ [102, 108, 97, 103, 32] ++ [97 + x % 26] ++ [s] ++ [32] ++ tx_d (v % 100)) = cs at hO hl8
  have htx : tx_n a v x s = cs ++ tx_b a x v := by rw [← hcs]; rfl
  rw [htx] at hr hok hlen
  clear hcs htx
  refine j_iload (pc := 422) g 2 dL_does_422 rfl ?_
  refine j_iconst (v := 4) (pc := 424) g dL_does_424 (by decide) ?_
  refine j_irem (pc := 425) g dL_does_425 (by decide) ?_
  rw [zr_4 v h7b]
  have hv4 : v % 4 < 4 := Nat.mod_lt _ (by decide)
  refine j_if_ne (tgt := 435) (pc := 426) g dL_does_426 (by decide) (fun h => ?_) (fun h => ?_)
  · have m0 : ¬ v % 4 = 0 := fun e => h (by rw [e]; rfl)
    refine j_iload (pc := 435) g 2 dL_does_435 rfl ?_
    refine j_iconst (v := 4) (pc := 437) g dL_does_437 (by decide) ?_
    refine j_irem (pc := 438) g dL_does_438 (by decide) ?_
    rw [zr_4 v h7b]
    refine j_iconst (v := nI 1) (pc := 439) g dL_does_439 (by decide) ?_
    refine j_icmp_ne (tgt := 470) (pc := 440) g dL_does_440 (by decide) (fun h1 => ?_) (fun h1 => ?_)
    · have m1 : ¬ v % 4 = 1 := fun e => h1 (by rw [e])
      refine j_iload (pc := 470) g 2 dL_does_470 rfl ?_
      refine j_iconst (v := 4) (pc := 472) g dL_does_472 (by decide) ?_
      refine j_irem (pc := 473) g dL_does_473 (by decide) ?_
      rw [zr_4 v h7b]
      refine j_iconst (v := nI 2) (pc := 474) g dL_does_474 (by decide) ?_
      refine j_icmp_ne (tgt := 508) (pc := 475) g dL_does_475 (by decide) (fun h2 => ?_) (fun h2 => ?_)
      · have m2 : ¬ v % 4 = 2 := fun e => h2 (by rw [e])
        have eb : tx_b a x v = [59] := by unfold tx_b; rw [if_neg m0, if_neg m1, if_neg m2]
        rw [eb] at hr hok hlen
        refine j_ldcwS (pc := 508) g (fun A U H h => h.2.2.1 ("CommandChainLaw", 286, ";", 12) (by decide)) dL_does_508 ?_
        refine jz_S (pc := 511) g hO 12 (by decide) (ds := [59]) rfl (by decide) (by show _ + 1 ≤ 34; omega) ⟨(Nat.le_of_ble_eq_true rfl), (Nat.le_of_ble_eq_true rfl)⟩ (Nat.le_of_ble_eq_true rfl) dL_does_511 (fun w7 hO => ?_)
        refine tz_511 hst g hO hok (Nat.lt_of_le_of_lt hlen (by decide)) hr (by omega) hk (by omega) hE2
      · have m2 : v % 4 = 2 := (nI_eq (by omega) (by decide)).mp h2
        have eb : tx_b a x v = [59, 109, 111, 118, 101, 32] ++ tx_d a ++ [32, 48] := by unfold tx_b; rw [if_neg m0, if_neg m1, if_pos m2]
        rw [eb] at hr hok hlen
        have hda := tx_dle a
        rw [if_pos h4b] at hda
        refine jz_new (pc := 478) g ⟨(Nat.le_of_ble_eq_true rfl), (Nat.le_of_ble_eq_true rfl)⟩ (Nat.le_of_ble_eq_true rfl) dL_does_478 dL_does_481 dL_does_482 (fun b2 w7 hP => ?_)
        refine j_ldcwS (pc := 485) g (fun A U H h => h.2.2.1 ("CommandChainLaw", 282, ";move ", 10) (by decide)) dL_does_485 ?_
        refine jz_S (pc := 488) g hP 10 (by decide) (ds := [59, 109, 111, 118, 101, 32]) rfl (by decide) (Nat.le_of_ble_eq_true rfl) ⟨(Nat.le_of_ble_eq_true rfl), (Nat.le_of_ble_eq_true rfl)⟩ (Nat.le_of_ble_eq_true rfl) dL_does_488 (fun w8 hP => ?_)
        refine j_iload (pc := 491) g 1 dL_does_491 rfl ?_
        refine jz_I (pc := 493) g hP (v := a) (by omega) (by show 6 + _ ≤ 34; omega) ⟨(Nat.le_of_ble_eq_true rfl), (Nat.le_of_ble_eq_true rfl)⟩ (Nat.le_of_ble_eq_true rfl) dL_does_493 (fun w9 hP => ?_)
        refine j_ldcwS (pc := 496) g (fun A U H h => h.2.2.1 ("CommandChainLaw", 284, " 0", 11) (by decide)) dL_does_496 ?_
        refine jz_S (pc := 499) g hP 11 (by decide) (ds := [32, 48]) rfl (by decide) (by rw [List.length_append]; show 6 + _ + 2 ≤ 34; omega) ⟨(Nat.le_of_ble_eq_true rfl), (Nat.le_of_ble_eq_true rfl)⟩ (Nat.le_of_ble_eq_true rfl) dL_does_499 (fun w10 hP => ?_)
        refine jz_str (pc := 502) g hP ⟨(Nat.le_of_ble_eq_true rfl), (Nat.le_of_ble_eq_true rfl)⟩ (Nat.le_of_ble_eq_true rfl) dL_does_502 (fun a9 q9 f9 hf9 => ?_)
        refine j_goto (tgt := 511) (pc := 505) g dL_does_505 (by decide) ?_
        refine jz_W (pc := 511) g hO hf9 (fun c hc => hok c (List.mem_append_right _ hc)) (by rw [List.length_append] at hlen; exact Nat.le_trans hlen (by decide)) ⟨(Nat.le_of_ble_eq_true rfl), (Nat.le_of_ble_eq_true rfl)⟩ (Nat.le_of_ble_eq_true rfl) dL_does_511 (fun w11 hO => ?_)
        refine tz_511 hst g hO hok (Nat.lt_of_le_of_lt hlen (by decide)) hr (by omega) hk (by omega) hE2
    · have m1 : v % 4 = 1 := (nI_eq (by omega) (by decide)).mp h1
      have eb : tx_b a x v = [59, 97, 100, 100, 32, 48, 32, 49, 32] ++ tx_d (x % 101) := by unfold tx_b; rw [if_neg m0, if_pos m1]
      rw [eb] at hr hok hlen
      have hxm : x % 101 < 101 := Nat.mod_lt _ (by decide)
      have hdx : (tx_d (x % 101)).length ≤ 3 := by
        rw [tx_len]; split
        · omega
        · split <;> omega
      refine jz_new (pc := 443) g ⟨(Nat.le_of_ble_eq_true rfl), (Nat.le_of_ble_eq_true rfl)⟩ (Nat.le_of_ble_eq_true rfl) dL_does_443 dL_does_446 dL_does_447 (fun b2 w7 hP => ?_)
      refine j_ldcwS (pc := 450) g (fun A U H h => h.2.2.1 ("CommandChainLaw", 276, ";add 0 1 ", 9) (by decide)) dL_does_450 ?_
      refine jz_S (pc := 453) g hP 9 (by decide) (ds := [59, 97, 100, 100, 32, 48, 32, 49, 32]) rfl (by decide) (Nat.le_of_ble_eq_true rfl) ⟨(Nat.le_of_ble_eq_true rfl), (Nat.le_of_ble_eq_true rfl)⟩ (Nat.le_of_ble_eq_true rfl) dL_does_453 (fun w8 hP => ?_)
      refine j_iload (pc := 456) g 3 dL_does_456 rfl ?_
      refine j_bipush (v := 101) (pc := 458) g dL_does_458 (by decide) ?_
      refine j_irem (pc := 460) g dL_does_460 (by decide) ?_
      rw [zr_101 x h8b]
      refine jz_I (pc := 461) g hP (v := x % 101) hxm (by show 9 + _ ≤ 34; omega) ⟨(Nat.le_of_ble_eq_true rfl), (Nat.le_of_ble_eq_true rfl)⟩ (Nat.le_of_ble_eq_true rfl) dL_does_461 (fun w9 hP => ?_)
      refine jz_str (pc := 464) g hP ⟨(Nat.le_of_ble_eq_true rfl), (Nat.le_of_ble_eq_true rfl)⟩ (Nat.le_of_ble_eq_true rfl) dL_does_464 (fun a9 q9 f9 hf9 => ?_)
      refine j_goto (tgt := 511) (pc := 467) g dL_does_467 (by decide) ?_
      refine jz_W (pc := 511) g hO hf9 (fun c hc => hok c (List.mem_append_right _ hc)) (by rw [List.length_append] at hlen; exact Nat.le_trans hlen (by decide)) ⟨(Nat.le_of_ble_eq_true rfl), (Nat.le_of_ble_eq_true rfl)⟩ (Nat.le_of_ble_eq_true rfl) dL_does_511 (fun w11 hO => ?_)
      refine tz_511 hst g hO hok (Nat.lt_of_le_of_lt hlen (by decide)) hr (by omega) hk (by omega) hE2
  · have m0 : v % 4 = 0 := (nI_eq (b := 0) (by omega) (by decide)).mp h
    have eb : tx_b a x v = [59, 102, 105, 114, 101, 32, 48] := by unfold tx_b; rw [if_pos m0]
    rw [eb] at hr hok hlen
    refine j_ldcwS (pc := 429) g (fun A U H h => h.2.2.1 ("CommandChainLaw", 274, ";fire 0", 8) (by decide)) dL_does_429 ?_
    refine j_goto (tgt := 511) (pc := 432) g dL_does_432 (by decide) ?_
    refine jz_S (pc := 511) g hO 8 (by decide) (ds := [59, 102, 105, 114, 101, 32, 48]) rfl (by decide) (by show _ + 7 ≤ 34; omega) ⟨(Nat.le_of_ble_eq_true rfl), (Nat.le_of_ble_eq_true rfl)⟩ (Nat.le_of_ble_eq_true rfl) dL_does_511 (fun w7 hO => ?_)
    refine tz_511 hst g hO hok (Nat.lt_of_le_of_lt hlen (by decide)) hr (by omega) hk (by omega) hE2
