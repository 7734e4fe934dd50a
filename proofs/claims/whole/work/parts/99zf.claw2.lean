section EV
variable {w : rk_W} {l : Launch} {d mc ms : Nat} {G : List Frame → Array Value → State → State → Prop} {Z : rk_Z} {rg : Nat → Nat} {I : rk_Mm} {R : rk_Rm} {T : Int} {x m b k Lx : Nat}
theorem cL_piece (hd : 20 ≤ d) (hz : Z.2.1 ≤ mc ∧ Z.2.2 ≤ ms) (hLx : (rk_fz w 5).2.1 = Lx) (hw : cl_W w) (hk : k + 7 ≤ Lx) (hL : Lx ≤ 3584) (hT : T + 40 ≤ 1000000) (C : cm rg I R x m T) (hq : ∀ I' R', cm rg I' R' x m (T + 40) → rk_Wp w l rk_mL_law d mc ms G 1056 [(0, rk_a 105 b), (1, rk_a 11 x), (2, rk_a 12 m), (3, rk_i (nI k))] [] Z I' R') : rk_Wp w l rk_mL_law d mc ms G 522 [(0, rk_a 105 b), (1, rk_a 11 x), (2, rk_a 12 m), (3, rk_i (nI k))] [] Z I R := by
  subst hLx
  obtain ⟨N, n, Hs, F, Sv, P, L, C⟩ := C
  obtain ⟨b0, b1, b2, b3, b4, b5, b6⟩ := cL_ins hk hL
  have C2 := C
  obtain ⟨X, M, V, s⟩ := C2
  have V0 := V.1.1
  obtain ⟨⟨c, hp⟩, ⟨oc, hoc, h13, hb⟩, ⟨t, ht, h10⟩, hr⟩ := V0
  have h8 : 1 ≤ N 8 := Int32.le_trans (by decide) (hr.1 8 (by decide)).1
  have hdu : ∀ o, o < oc → ∃ du, du < 2 ^ 20 ∧ N (220 + 7 * o + 5) = nI du := fun o ho => by
    obtain ⟨_, _, du, g2, g3⟩ := hb o ho
    exact ⟨du, by omega, g3⟩
  refine rk_aload_n 1 dL_law_522 rfl rfl ?_
  refine rk_aload_n 0 dL_law_523 rfl rfl ?_
  refine rk_iload_n 3 dL_law_524 rfl rfl ?_
  refine rk_iconst 1 dL_law_525 (by decide) ?_
  refine rk_iadd dL_law_526 ?_
  refine rk_fald 105 5 (by decide) rfl dL_law_527 (by with_reducible assumption) ?_
  refine rk_pc (pc' := 528) rfl ?_
  refine rk_aload_n 0 dL_law_528 rfl rfl ?_
  refine rk_iload_n 3 dL_law_529 rfl rfl ?_
  refine rk_iconst 2 dL_law_530 (by decide) ?_
  refine rk_iadd dL_law_531 ?_
  refine rk_fald 105 5 (by decide) rfl dL_law_532 (by with_reducible assumption) ?_
  refine rk_cVp (cX10_piece_s V X _ _) rk_eX10_piece rfl ⟨rfl, rfl⟩ rk_kL_58 dL_law_533 rfl (by omega) (Nat.le_of_ble_eq_true rfl) hz ?_
  refine rk_pc (pc' := 536) rfl ?_
  refine rk_aload_n 2 dL_law_536 rfl rfl ?_
  refine rk_aload_n 0 dL_law_537 rfl rfl ?_
  refine rk_iload_n 3 dL_law_538 rfl rfl ?_
  refine rk_iconst 1 dL_law_539 (by decide) ?_
  refine rk_iadd dL_law_540 ?_
  refine rk_fald 105 5 (by decide) rfl dL_law_541 (by with_reducible assumption) ?_
  refine rk_pc (pc' := 542) rfl ?_
  refine rk_aload_n 0 dL_law_542 rfl rfl ?_
  refine rk_iload_n 3 dL_law_543 rfl rfl ?_
  refine rk_iconst 2 dL_law_544 (by decide) ?_
  refine rk_iadd dL_law_545 ?_
  refine rk_fald 105 5 (by decide) rfl dL_law_546 (by with_reducible assumption) ?_
  refine rk_cVp (cX11_piece_s (by rw [M.1]; exact hp) _ _) rk_eX11_piece rfl ⟨rfl, rfl⟩ rk_kL_61 dL_law_547 rfl (by omega) (Nat.le_of_ble_eq_true rfl) hz ?_
  rw [M.1]
  refine rk_pc (pc' := 550) rfl ?_
  refine rk_icmp_eq 1056 dL_law_550 (by decide) (fun qz550 => ?_) (fun qz550 => ?_)
  · skip
    exact hq _ _ (C.mo (by omega))
  · skip
    exact absurd rfl qz550
theorem cL_ofOrder (hd : 20 ≤ d) (hz : Z.2.1 ≤ mc ∧ Z.2.2 ≤ ms) (hLx : (rk_fz w 5).2.1 = Lx) (hw : cl_W w) (hk : k + 7 ≤ Lx) (hL : Lx ≤ 3584) (hT : T + 40 ≤ 1000000) (C : cm rg I R x m T) (hq : ∀ I' R', cm rg I' R' x m (T + 40) → rk_Wp w l rk_mL_law d mc ms G 1056 [(0, rk_a 105 b), (1, rk_a 11 x), (2, rk_a 12 m), (3, rk_i (nI k))] [] Z I' R') : rk_Wp w l rk_mL_law d mc ms G 555 [(0, rk_a 105 b), (1, rk_a 11 x), (2, rk_a 12 m), (3, rk_i (nI k))] [] Z I R := by
  subst hLx
  obtain ⟨N, n, Hs, F, Sv, P, L, C⟩ := C
  obtain ⟨b0, b1, b2, b3, b4, b5, b6⟩ := cL_ins hk hL
  have C2 := C
  obtain ⟨X, M, V, s⟩ := C2
  have V0 := V.1.1
  obtain ⟨⟨c, hp⟩, ⟨oc, hoc, h13, hb⟩, ⟨t, ht, h10⟩, hr⟩ := V0
  have h8 : 1 ≤ N 8 := Int32.le_trans (by decide) (hr.1 8 (by decide)).1
  have hdu : ∀ o, o < oc → ∃ du, du < 2 ^ 20 ∧ N (220 + 7 * o + 5) = nI du := fun o ho => by
    obtain ⟨_, _, du, g2, g3⟩ := hb o ho
    exact ⟨du, by omega, g3⟩
  refine rk_aload_n 1 dL_law_555 rfl rfl ?_
  refine rk_aload_n 0 dL_law_556 rfl rfl ?_
  refine rk_iload_n 3 dL_law_557 rfl rfl ?_
  refine rk_iconst 1 dL_law_558 (by decide) ?_
  refine rk_iadd dL_law_559 ?_
  refine rk_fald 105 5 (by decide) rfl dL_law_560 (by with_reducible assumption) ?_
  refine rk_pc (pc' := 561) rfl ?_
  refine rk_aload_n 0 dL_law_561 rfl rfl ?_
  refine rk_iload_n 3 dL_law_562 rfl rfl ?_
  refine rk_iconst 2 dL_law_563 (by decide) ?_
  refine rk_iadd dL_law_564 ?_
  refine rk_fald 105 5 (by decide) rfl dL_law_565 (by with_reducible assumption) ?_
  refine rk_cVp (cX10_ofOrder_s V X _ _) rk_eX10_ofOrder rfl ⟨rfl, rfl⟩ rk_kL_62 dL_law_566 rfl (by omega) (Nat.le_of_ble_eq_true rfl) hz ?_
  refine rk_pc (pc' := 569) rfl ?_
  refine rk_aload_n 2 dL_law_569 rfl rfl ?_
  refine rk_aload_n 0 dL_law_570 rfl rfl ?_
  refine rk_iload_n 3 dL_law_571 rfl rfl ?_
  refine rk_iconst 1 dL_law_572 (by decide) ?_
  refine rk_iadd dL_law_573 ?_
  refine rk_fald 105 5 (by decide) rfl dL_law_574 (by with_reducible assumption) ?_
  refine rk_pc (pc' := 575) rfl ?_
  refine rk_aload_n 0 dL_law_575 rfl rfl ?_
  refine rk_iload_n 3 dL_law_576 rfl rfl ?_
  refine rk_iconst 2 dL_law_577 (by decide) ?_
  refine rk_iadd dL_law_578 ?_
  refine rk_fald 105 5 (by decide) rfl dL_law_579 (by with_reducible assumption) ?_
  refine rk_cVp (cX11_ofOrder_s (by rw [M.1]; exact hp) (by rw [M.1]; exact h13) hoc _ _) rk_eX11_ofOrder rfl ⟨rfl, rfl⟩ rk_kL_65 dL_law_580 rfl (by omega) (Nat.le_of_ble_eq_true rfl) hz ?_
  rw [M.1]
  refine rk_pc (pc' := 583) rfl ?_
  refine rk_icmp_eq 1056 dL_law_583 (by decide) (fun qz583 => ?_) (fun qz583 => ?_)
  · skip
    exact hq _ _ (C.mo (by omega))
  · skip
    exact absurd rfl qz583
theorem cL_count (hd : 20 ≤ d) (hz : Z.2.1 ≤ mc ∧ Z.2.2 ≤ ms) (hLx : (rk_fz w 5).2.1 = Lx) (hw : cl_W w) (hk : k + 7 ≤ Lx) (hL : Lx ≤ 3584) (hT : T + 40 ≤ 1000000) (C : cm rg I R x m T) (hq : ∀ I' R', cm rg I' R' x m (T + 40) → rk_Wp w l rk_mL_law d mc ms G 1056 [(0, rk_a 105 b), (1, rk_a 11 x), (2, rk_a 12 m), (3, rk_i (nI k))] [] Z I' R') : rk_Wp w l rk_mL_law d mc ms G 588 [(0, rk_a 105 b), (1, rk_a 11 x), (2, rk_a 12 m), (3, rk_i (nI k))] [] Z I R := by
  subst hLx
  obtain ⟨N, n, Hs, F, Sv, P, L, C⟩ := C
  obtain ⟨b0, b1, b2, b3, b4, b5, b6⟩ := cL_ins hk hL
  have C2 := C
  obtain ⟨X, M, V, s⟩ := C2
  have V0 := V.1.1
  obtain ⟨⟨c, hp⟩, ⟨oc, hoc, h13, hb⟩, ⟨t, ht, h10⟩, hr⟩ := V0
  have h8 : 1 ≤ N 8 := Int32.le_trans (by decide) (hr.1 8 (by decide)).1
  have hdu : ∀ o, o < oc → ∃ du, du < 2 ^ 20 ∧ N (220 + 7 * o + 5) = nI du := fun o ho => by
    obtain ⟨_, _, du, g2, g3⟩ := hb o ho
    exact ⟨du, by omega, g3⟩
  refine rk_aload_n 1 dL_law_588 rfl rfl ?_
  refine rk_aload_n 0 dL_law_589 rfl rfl ?_
  refine rk_iload_n 3 dL_law_590 rfl rfl ?_
  refine rk_iconst 1 dL_law_591 (by decide) ?_
  refine rk_iadd dL_law_592 ?_
  refine rk_fald 105 5 (by decide) rfl dL_law_593 (by with_reducible assumption) ?_
  refine rk_pc (pc' := 594) rfl ?_
  refine rk_cVp (cX10_count_s V X _) rk_eX10_count rfl ⟨rfl, rfl⟩ rk_kL_66 dL_law_594 rfl (by omega) (Nat.le_of_ble_eq_true rfl) hz ?_
  refine rk_aload_n 2 dL_law_597 rfl rfl ?_
  refine rk_aload_n 0 dL_law_598 rfl rfl ?_
  refine rk_iload_n 3 dL_law_599 rfl rfl ?_
  refine rk_iconst 1 dL_law_600 (by decide) ?_
  refine rk_iadd dL_law_601 ?_
  refine rk_pc (pc' := 602) rfl ?_
  refine rk_fald 105 5 (by decide) rfl dL_law_602 (by with_reducible assumption) ?_
  refine rk_cVp (cX11_count_s  _) rk_eX11_count rfl ⟨rfl, rfl⟩ rk_kL_69 dL_law_603 rfl (by omega) (Nat.le_of_ble_eq_true rfl) hz ?_
  rw [M.1, M.2.2.2.2.2.1, M.2.1]
  refine rk_icmp_eq 1056 dL_law_606 (by decide) (fun qz606 => ?_) (fun qz606 => ?_)
  · skip
    exact hq _ _ (C.mo (by omega))
  · skip
    exact absurd rfl qz606
theorem cL_account (hd : 20 ≤ d) (hz : Z.2.1 ≤ mc ∧ Z.2.2 ≤ ms) (hLx : (rk_fz w 5).2.1 = Lx) (hw : cl_W w) (hk : k + 7 ≤ Lx) (hL : Lx ≤ 3584) (hT : T + 40 ≤ 1000000) (C : cm rg I R x m T) (hq : ∀ I' R', cm rg I' R' x m (T + 40) → rk_Wp w l rk_mL_law d mc ms G 1056 [(0, rk_a 105 b), (1, rk_a 11 x), (2, rk_a 12 m), (3, rk_i (nI k))] [] Z I' R') : rk_Wp w l rk_mL_law d mc ms G 611 [(0, rk_a 105 b), (1, rk_a 11 x), (2, rk_a 12 m), (3, rk_i (nI k))] [] Z I R := by
  subst hLx
  obtain ⟨N, n, Hs, F, Sv, P, L, C⟩ := C
  obtain ⟨b0, b1, b2, b3, b4, b5, b6⟩ := cL_ins hk hL
  have C2 := C
  obtain ⟨X, M, V, s⟩ := C2
  have V0 := V.1.1
  obtain ⟨⟨c, hp⟩, ⟨oc, hoc, h13, hb⟩, ⟨t, ht, h10⟩, hr⟩ := V0
  have h8 : 1 ≤ N 8 := Int32.le_trans (by decide) (hr.1 8 (by decide)).1
  have hdu : ∀ o, o < oc → ∃ du, du < 2 ^ 20 ∧ N (220 + 7 * o + 5) = nI du := fun o ho => by
    obtain ⟨_, _, du, g2, g3⟩ := hb o ho
    exact ⟨du, by omega, g3⟩
  refine rk_aload_n 1 dL_law_611 rfl rfl ?_
  refine rk_aload_n 0 dL_law_612 rfl rfl ?_
  refine rk_iload_n 3 dL_law_613 rfl rfl ?_
  refine rk_iconst 1 dL_law_614 (by decide) ?_
  refine rk_iadd dL_law_615 ?_
  refine rk_fald 105 5 (by decide) rfl dL_law_616 (by with_reducible assumption) ?_
  refine rk_pc (pc' := 617) rfl ?_
  refine rk_aload_n 0 dL_law_617 rfl rfl ?_
  refine rk_iload_n 3 dL_law_618 rfl rfl ?_
  refine rk_iconst 2 dL_law_619 (by decide) ?_
  refine rk_iadd dL_law_620 ?_
  refine rk_fald 105 5 (by decide) rfl dL_law_621 (by with_reducible assumption) ?_
  refine rk_cVp (cX10_account_s V X _ _) rk_eX10_account rfl ⟨rfl, rfl⟩ rk_kL_70 dL_law_622 rfl (by omega) (Nat.le_of_ble_eq_true rfl) hz ?_
  refine rk_pc (pc' := 625) rfl ?_
  refine rk_aload_n 2 dL_law_625 rfl rfl ?_
  refine rk_aload_n 0 dL_law_626 rfl rfl ?_
  refine rk_iload_n 3 dL_law_627 rfl rfl ?_
  refine rk_iconst 1 dL_law_628 (by decide) ?_
  refine rk_iadd dL_law_629 ?_
  refine rk_fald 105 5 (by decide) rfl dL_law_630 (by with_reducible assumption) ?_
  refine rk_pc (pc' := 631) rfl ?_
  refine rk_aload_n 0 dL_law_631 rfl rfl ?_
  refine rk_iload_n 3 dL_law_632 rfl rfl ?_
  refine rk_iconst 2 dL_law_633 (by decide) ?_
  refine rk_iadd dL_law_634 ?_
  refine rk_fald 105 5 (by decide) rfl dL_law_635 (by with_reducible assumption) ?_
  refine rk_cVp (cX11_account_s (by rw [M.1]; exact hp.2.1) hp.1 _ _) rk_eX11_account rfl ⟨rfl, rfl⟩ rk_kL_73 dL_law_636 rfl (by omega) (Nat.le_of_ble_eq_true rfl) hz ?_
  rw [M.1]
  refine rk_pc (pc' := 639) rfl ?_
  refine rk_icmp_eq 1056 dL_law_639 (by decide) (fun qz639 => ?_) (fun qz639 => ?_)
  · skip
    exact hq _ _ (C.mo (by omega))
  · skip
    exact absurd rfl qz639
theorem cL_takes (hd : 20 ≤ d) (hz : Z.2.1 ≤ mc ∧ Z.2.2 ≤ ms) (hLx : (rk_fz w 5).2.1 = Lx) (hw : cl_W w) (hk : k + 7 ≤ Lx) (hL : Lx ≤ 3584) (hT : T + 40 ≤ 1000000) (C : cm rg I R x m T) (hq : ∀ I' R', cm rg I' R' x m (T + 40) → rk_Wp w l rk_mL_law d mc ms G 1056 [(0, rk_a 105 b), (1, rk_a 11 x), (2, rk_a 12 m), (3, rk_i (nI k))] [] Z I' R') : rk_Wp w l rk_mL_law d mc ms G 644 [(0, rk_a 105 b), (1, rk_a 11 x), (2, rk_a 12 m), (3, rk_i (nI k))] [] Z I R := by
  subst hLx
  obtain ⟨N, n, Hs, F, Sv, P, L, C⟩ := C
  obtain ⟨b0, b1, b2, b3, b4, b5, b6⟩ := cL_ins hk hL
  have C2 := C
  obtain ⟨X, M, V, s⟩ := C2
  have V0 := V.1.1
  obtain ⟨⟨c, hp⟩, ⟨oc, hoc, h13, hb⟩, ⟨t, ht, h10⟩, hr⟩ := V0
  have h8 : 1 ≤ N 8 := Int32.le_trans (by decide) (hr.1 8 (by decide)).1
  have hdu : ∀ o, o < oc → ∃ du, du < 2 ^ 20 ∧ N (220 + 7 * o + 5) = nI du := fun o ho => by
    obtain ⟨_, _, du, g2, g3⟩ := hb o ho
    exact ⟨du, by omega, g3⟩
  refine rk_aload_n 1 dL_law_644 rfl rfl ?_
  refine rk_aload_n 0 dL_law_645 rfl rfl ?_
  refine rk_iload_n 3 dL_law_646 rfl rfl ?_
  refine rk_iconst 1 dL_law_647 (by decide) ?_
  refine rk_iadd dL_law_648 ?_
  refine rk_fald 105 5 (by decide) rfl dL_law_649 (by with_reducible assumption) ?_
  refine rk_pc (pc' := 650) rfl ?_
  refine rk_aload_n 0 dL_law_650 rfl rfl ?_
  refine rk_iload_n 3 dL_law_651 rfl rfl ?_
  refine rk_iconst 2 dL_law_652 (by decide) ?_
  refine rk_iadd dL_law_653 ?_
  refine rk_fald 105 5 (by decide) rfl dL_law_654 (by with_reducible assumption) ?_
  refine rk_aload_n 0 dL_law_655 rfl rfl ?_
  refine rk_pc (pc' := 656) rfl ?_
  refine rk_iload_n 3 dL_law_656 rfl rfl ?_
  refine rk_iconst 3 dL_law_657 (by decide) ?_
  refine rk_iadd dL_law_658 ?_
  refine rk_fald 105 5 (by decide) rfl dL_law_659 (by with_reducible assumption) ?_
  refine rk_aload_n 0 dL_law_660 rfl rfl ?_
  refine rk_iload_n 3 dL_law_661 rfl rfl ?_
  refine rk_pc (pc' := 662) rfl ?_
  refine rk_iconst 4 dL_law_662 (by decide) ?_
  refine rk_iadd dL_law_663 ?_
  refine rk_fald 105 5 (by decide) rfl dL_law_664 (by with_reducible assumption) ?_
  refine rk_aload_n 0 dL_law_665 rfl rfl ?_
  refine rk_iload_n 3 dL_law_666 rfl rfl ?_
  refine rk_iconst 5 dL_law_667 (by decide) ?_
  refine rk_pc (pc' := 668) rfl ?_
  refine rk_iadd dL_law_668 ?_
  refine rk_fald 105 5 (by decide) rfl dL_law_669 (by with_reducible assumption) ?_
  refine rk_cVp (cX10_takes_s V X _ _ _ _ _) rk_eX10_takes rfl ⟨rfl, rfl⟩ rk_kL_74 dL_law_670 rfl (by omega) (Nat.le_of_ble_eq_true rfl) hz ?_
  refine rk_aload_n 2 dL_law_673 rfl rfl ?_
  refine rk_aload_n 0 dL_law_674 rfl rfl ?_
  refine rk_iload_n 3 dL_law_675 rfl rfl ?_
  refine rk_pc (pc' := 676) rfl ?_
  refine rk_iconst 1 dL_law_676 (by decide) ?_
  refine rk_iadd dL_law_677 ?_
  refine rk_fald 105 5 (by decide) rfl dL_law_678 (by with_reducible assumption) ?_
  refine rk_aload_n 0 dL_law_679 rfl rfl ?_
  refine rk_iload_n 3 dL_law_680 rfl rfl ?_
  refine rk_iconst 2 dL_law_681 (by decide) ?_
  refine rk_pc (pc' := 682) rfl ?_
  refine rk_iadd dL_law_682 ?_
  refine rk_fald 105 5 (by decide) rfl dL_law_683 (by with_reducible assumption) ?_
  refine rk_aload_n 0 dL_law_684 rfl rfl ?_
  refine rk_iload_n 3 dL_law_685 rfl rfl ?_
  refine rk_iconst 3 dL_law_686 (by decide) ?_
  refine rk_iadd dL_law_687 ?_
  refine rk_pc (pc' := 688) rfl ?_
  refine rk_fald 105 5 (by decide) rfl dL_law_688 (by with_reducible assumption) ?_
  refine rk_aload_n 0 dL_law_689 rfl rfl ?_
  refine rk_iload_n 3 dL_law_690 rfl rfl ?_
  refine rk_iconst 4 dL_law_691 (by decide) ?_
  refine rk_iadd dL_law_692 ?_
  refine rk_fald 105 5 (by decide) rfl dL_law_693 (by with_reducible assumption) ?_
  refine rk_pc (pc' := 694) rfl ?_
  refine rk_aload_n 0 dL_law_694 rfl rfl ?_
  refine rk_iload_n 3 dL_law_695 rfl rfl ?_
  refine rk_iconst 5 dL_law_696 (by decide) ?_
  refine rk_iadd dL_law_697 ?_
  refine rk_fald 105 5 (by decide) rfl dL_law_698 (by with_reducible assumption) ?_
  refine rk_cVp (cX11_takes_s (by rw [M.1]; exact h8) _ _ _ _ _) rk_eX11_takes rfl ⟨rfl, rfl⟩ rk_kL_78 dL_law_699 rfl (by omega) (Nat.le_of_ble_eq_true rfl) hz ?_
  rw [M.1]
  refine rk_pc (pc' := 702) rfl ?_
  refine rk_icmp_eq 1056 dL_law_702 (by decide) (fun qz702 => ?_) (fun qz702 => ?_)
  · skip
    exact hq _ _ (C.mo (by omega))
  · skip
    exact absurd rfl qz702
theorem cL_longest (hd : 20 ≤ d) (hz : Z.2.1 ≤ mc ∧ Z.2.2 ≤ ms) (hLx : (rk_fz w 5).2.1 = Lx) (hw : cl_W w) (hk : k + 7 ≤ Lx) (hL : Lx ≤ 3584) (hT : T + 40 ≤ 1000000) (C : cm rg I R x m T) (hq : ∀ I' R', cm rg I' R' x m (T + 40) → rk_Wp w l rk_mL_law d mc ms G 1056 [(0, rk_a 105 b), (1, rk_a 11 x), (2, rk_a 12 m), (3, rk_i (nI k))] [] Z I' R') : rk_Wp w l rk_mL_law d mc ms G 707 [(0, rk_a 105 b), (1, rk_a 11 x), (2, rk_a 12 m), (3, rk_i (nI k))] [] Z I R := by
  subst hLx
  obtain ⟨N, n, Hs, F, Sv, P, L, C⟩ := C
  obtain ⟨b0, b1, b2, b3, b4, b5, b6⟩ := cL_ins hk hL
  have C2 := C
  obtain ⟨X, M, V, s⟩ := C2
  have V0 := V.1.1
  obtain ⟨⟨c, hp⟩, ⟨oc, hoc, h13, hb⟩, ⟨t, ht, h10⟩, hr⟩ := V0
  have h8 : 1 ≤ N 8 := Int32.le_trans (by decide) (hr.1 8 (by decide)).1
  have hdu : ∀ o, o < oc → ∃ du, du < 2 ^ 20 ∧ N (220 + 7 * o + 5) = nI du := fun o ho => by
    obtain ⟨_, _, du, g2, g3⟩ := hb o ho
    exact ⟨du, by omega, g3⟩
  refine rk_aload_n 1 dL_law_707 rfl rfl ?_
  refine rk_aload_n 0 dL_law_708 rfl rfl ?_
  refine rk_iload_n 3 dL_law_709 rfl rfl ?_
  refine rk_iconst 1 dL_law_710 (by decide) ?_
  refine rk_iadd dL_law_711 ?_
  refine rk_fald 105 5 (by decide) rfl dL_law_712 (by with_reducible assumption) ?_
  refine rk_pc (pc' := 713) rfl ?_
  refine rk_aload_n 0 dL_law_713 rfl rfl ?_
  refine rk_iload_n 3 dL_law_714 rfl rfl ?_
  refine rk_iconst 2 dL_law_715 (by decide) ?_
  refine rk_iadd dL_law_716 ?_
  refine rk_fald 105 5 (by decide) rfl dL_law_717 (by with_reducible assumption) ?_
  refine rk_aload_n 0 dL_law_718 rfl rfl ?_
  refine rk_pc (pc' := 719) rfl ?_
  refine rk_iload_n 3 dL_law_719 rfl rfl ?_
  refine rk_iconst 3 dL_law_720 (by decide) ?_
  refine rk_iadd dL_law_721 ?_
  refine rk_fald 105 5 (by decide) rfl dL_law_722 (by with_reducible assumption) ?_
  refine rk_cVp (cX10_longest_s V X _ _ _) rk_eX10_longest rfl ⟨rfl, rfl⟩ rk_kL_79 dL_law_723 rfl (by omega) (Nat.le_of_ble_eq_true rfl) hz ?_
  refine rk_aload_n 2 dL_law_726 rfl rfl ?_
  refine rk_pc (pc' := 727) rfl ?_
  refine rk_aload_n 0 dL_law_727 rfl rfl ?_
  refine rk_iload_n 3 dL_law_728 rfl rfl ?_
  refine rk_iconst 1 dL_law_729 (by decide) ?_
  refine rk_iadd dL_law_730 ?_
  refine rk_fald 105 5 (by decide) rfl dL_law_731 (by with_reducible assumption) ?_
  refine rk_aload_n 0 dL_law_732 rfl rfl ?_
  refine rk_pc (pc' := 733) rfl ?_
  refine rk_iload_n 3 dL_law_733 rfl rfl ?_
  refine rk_iconst 2 dL_law_734 (by decide) ?_
  refine rk_iadd dL_law_735 ?_
  refine rk_fald 105 5 (by decide) rfl dL_law_736 (by with_reducible assumption) ?_
  refine rk_aload_n 0 dL_law_737 rfl rfl ?_
  refine rk_iload_n 3 dL_law_738 rfl rfl ?_
  refine rk_pc (pc' := 739) rfl ?_
  refine rk_iconst 3 dL_law_739 (by decide) ?_
  refine rk_iadd dL_law_740 ?_
  refine rk_fald 105 5 (by decide) rfl dL_law_741 (by with_reducible assumption) ?_
  refine rk_cVp (cX11_longest_s (by rw [M.1]; exact h8) _ _ _) rk_eX11_longest rfl ⟨rfl, rfl⟩ rk_kL_82 dL_law_742 rfl (by omega) (Nat.le_of_ble_eq_true rfl) hz ?_
  rw [M.1]
  refine rk_icmp_eq 1056 dL_law_745 (by decide) (fun qz745 => ?_) (fun qz745 => ?_)
  · skip
    exact hq _ _ (C.mo (by omega))
  · skip
    exact absurd rfl qz745
theorem cL_leastYarns (hd : 20 ≤ d) (hz : Z.2.1 ≤ mc ∧ Z.2.2 ≤ ms) (hLx : (rk_fz w 5).2.1 = Lx) (hw : cl_W w) (hk : k + 7 ≤ Lx) (hL : Lx ≤ 3584) (hT : T + 40 ≤ 1000000) (C : cm rg I R x m T) (hq : ∀ I' R', cm rg I' R' x m (T + 40) → rk_Wp w l rk_mL_law d mc ms G 1056 [(0, rk_a 105 b), (1, rk_a 11 x), (2, rk_a 12 m), (3, rk_i (nI k))] [] Z I' R') : rk_Wp w l rk_mL_law d mc ms G 750 [(0, rk_a 105 b), (1, rk_a 11 x), (2, rk_a 12 m), (3, rk_i (nI k))] [] Z I R := by
  subst hLx
  obtain ⟨N, n, Hs, F, Sv, P, L, C⟩ := C
  obtain ⟨b0, b1, b2, b3, b4, b5, b6⟩ := cL_ins hk hL
  have C2 := C
  obtain ⟨X, M, V, s⟩ := C2
  have V0 := V.1.1
  obtain ⟨⟨c, hp⟩, ⟨oc, hoc, h13, hb⟩, ⟨t, ht, h10⟩, hr⟩ := V0
  have h8 : 1 ≤ N 8 := Int32.le_trans (by decide) (hr.1 8 (by decide)).1
  have hdu : ∀ o, o < oc → ∃ du, du < 2 ^ 20 ∧ N (220 + 7 * o + 5) = nI du := fun o ho => by
    obtain ⟨_, _, du, g2, g3⟩ := hb o ho
    exact ⟨du, by omega, g3⟩
  refine rk_aload_n 1 dL_law_750 rfl rfl ?_
  refine rk_aload_n 0 dL_law_751 rfl rfl ?_
  refine rk_iload_n 3 dL_law_752 rfl rfl ?_
  refine rk_iconst 1 dL_law_753 (by decide) ?_
  refine rk_iadd dL_law_754 ?_
  refine rk_fald 105 5 (by decide) rfl dL_law_755 (by with_reducible assumption) ?_
  refine rk_pc (pc' := 756) rfl ?_
  refine rk_aload_n 0 dL_law_756 rfl rfl ?_
  refine rk_iload_n 3 dL_law_757 rfl rfl ?_
  refine rk_iconst 2 dL_law_758 (by decide) ?_
  refine rk_iadd dL_law_759 ?_
  refine rk_fald 105 5 (by decide) rfl dL_law_760 (by with_reducible assumption) ?_
  refine rk_aload_n 0 dL_law_761 rfl rfl ?_
  refine rk_pc (pc' := 762) rfl ?_
  refine rk_iload_n 3 dL_law_762 rfl rfl ?_
  refine rk_iconst 3 dL_law_763 (by decide) ?_
  refine rk_iadd dL_law_764 ?_
  refine rk_fald 105 5 (by decide) rfl dL_law_765 (by with_reducible assumption) ?_
  refine rk_cVp (cX10_leastYarns_s V X _ _ _) rk_eX10_leastYarns rfl ⟨rfl, rfl⟩ rk_kL_83 dL_law_766 rfl (by omega) (Nat.le_of_ble_eq_true rfl) hz ?_
  refine rk_aload_n 2 dL_law_769 rfl rfl ?_
  refine rk_pc (pc' := 770) rfl ?_
  refine rk_aload_n 0 dL_law_770 rfl rfl ?_
  refine rk_iload_n 3 dL_law_771 rfl rfl ?_
  refine rk_iconst 1 dL_law_772 (by decide) ?_
  refine rk_iadd dL_law_773 ?_
  refine rk_fald 105 5 (by decide) rfl dL_law_774 (by with_reducible assumption) ?_
  refine rk_aload_n 0 dL_law_775 rfl rfl ?_
  refine rk_pc (pc' := 776) rfl ?_
  refine rk_iload_n 3 dL_law_776 rfl rfl ?_
  refine rk_iconst 2 dL_law_777 (by decide) ?_
  refine rk_iadd dL_law_778 ?_
  refine rk_fald 105 5 (by decide) rfl dL_law_779 (by with_reducible assumption) ?_
  refine rk_aload_n 0 dL_law_780 rfl rfl ?_
  refine rk_iload_n 3 dL_law_781 rfl rfl ?_
  refine rk_pc (pc' := 782) rfl ?_
  refine rk_iconst 3 dL_law_782 (by decide) ?_
  refine rk_iadd dL_law_783 ?_
  refine rk_fald 105 5 (by decide) rfl dL_law_784 (by with_reducible assumption) ?_
  refine rk_cVp (cX11_leastYarns_s  _ _ _) rk_eX11_leastYarns rfl ⟨rfl, rfl⟩ rk_kL_86 dL_law_785 rfl (by omega) (Nat.le_of_ble_eq_true rfl) hz ?_
  rw [M.1]
  refine rk_icmp_eq 1056 dL_law_788 (by decide) (fun qz788 => ?_) (fun qz788 => ?_)
  · skip
    exact hq _ _ (C.mo (by omega))
  · skip
    exact absurd rfl qz788
theorem cL_finesIn (hd : 20 ≤ d) (hz : Z.2.1 ≤ mc ∧ Z.2.2 ≤ ms) (hLx : (rk_fz w 5).2.1 = Lx) (hw : cl_W w) (hk : k + 7 ≤ Lx) (hL : Lx ≤ 3584) (hT : T + 40 ≤ 1000000) (C : cm rg I R x m T) (hq : ∀ I' R', cm rg I' R' x m (T + 40) → rk_Wp w l rk_mL_law d mc ms G 1056 [(0, rk_a 105 b), (1, rk_a 11 x), (2, rk_a 12 m), (3, rk_i (nI k))] [] Z I' R') : rk_Wp w l rk_mL_law d mc ms G 882 [(0, rk_a 105 b), (1, rk_a 11 x), (2, rk_a 12 m), (3, rk_i (nI k))] [] Z I R := by
  subst hLx
  obtain ⟨N, n, Hs, F, Sv, P, L, C⟩ := C
  obtain ⟨b0, b1, b2, b3, b4, b5, b6⟩ := cL_ins hk hL
  have C2 := C
  obtain ⟨X, M, V, s⟩ := C2
  have V0 := V.1.1
  obtain ⟨⟨c, hp⟩, ⟨oc, hoc, h13, hb⟩, ⟨t, ht, h10⟩, hr⟩ := V0
  have h8 : 1 ≤ N 8 := Int32.le_trans (by decide) (hr.1 8 (by decide)).1
  have hdu : ∀ o, o < oc → ∃ du, du < 2 ^ 20 ∧ N (220 + 7 * o + 5) = nI du := fun o ho => by
    obtain ⟨_, _, du, g2, g3⟩ := hb o ho
    exact ⟨du, by omega, g3⟩
  refine rk_aload_n 1 dL_law_882 rfl rfl ?_
  refine rk_aload_n 0 dL_law_883 rfl rfl ?_
  refine rk_iload_n 3 dL_law_884 rfl rfl ?_
  refine rk_iconst 1 dL_law_885 (by decide) ?_
  refine rk_iadd dL_law_886 ?_
  refine rk_fald 105 5 (by decide) rfl dL_law_887 (by with_reducible assumption) ?_
  refine rk_pc (pc' := 888) rfl ?_
  refine rk_cVp (cX10_finesIn_s V X _) rk_eX10_finesIn rfl ⟨rfl, rfl⟩ rk_kL_99 dL_law_888 rfl (by omega) (Nat.le_of_ble_eq_true rfl) hz ?_
  refine rk_aload_n 2 dL_law_891 rfl rfl ?_
  refine rk_aload_n 0 dL_law_892 rfl rfl ?_
  refine rk_iload_n 3 dL_law_893 rfl rfl ?_
  refine rk_iconst 1 dL_law_894 (by decide) ?_
  refine rk_iadd dL_law_895 ?_
  refine rk_pc (pc' := 896) rfl ?_
  refine rk_fald 105 5 (by decide) rfl dL_law_896 (by with_reducible assumption) ?_
  refine rk_cVp (cX11_finesIn_s ht hoc (by rw [M.1]; exact h10) (by rw [M.1]; exact h13) (by rw [M.1]; exact hdu) _) rk_eX11_finesIn rfl ⟨rfl, rfl⟩ rk_kL_102 dL_law_897 rfl (by omega) (Nat.le_of_ble_eq_true rfl) hz ?_
  rw [M.1]
  refine rk_icmp_eq 1056 dL_law_900 (by decide) (fun qz900 => ?_) (fun qz900 => ?_)
  · skip
    exact hq _ _ (C.mo (by omega))
  · skip
    exact absurd rfl qz900
end EV

