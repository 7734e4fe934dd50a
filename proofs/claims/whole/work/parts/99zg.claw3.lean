section EW
variable {w : rk_W} {l : Launch} {d mc ms : Nat} {G : List Frame → Array Value → State → State → Prop} {Z : rk_Z} {rg : Nat → Nat} {I : rk_Mm} {R : rk_Rm} {T : Int} {x m b k Lx : Nat}
theorem cL_wouldFill (hd : 20 ≤ d) (hz : Z.2.1 ≤ mc ∧ Z.2.2 ≤ ms) (hLx : (rk_fz w 5).2.1 = Lx) (hw : cl_W w) (hk : k + 7 ≤ Lx) (hL : Lx ≤ 3584) (hT : T + 40 ≤ 1000000) (C : cm rg I R x m T) (hq : ∀ I' R', cm rg I' R' x m (T + 40) → rk_Wp w l rk_mL_law d mc ms G 1056 [(0, rk_a 105 b), (1, rk_a 11 x), (2, rk_a 12 m), (3, rk_i (nI k))] [] Z I' R') : rk_Wp w l rk_mL_law d mc ms G 793 [(0, rk_a 105 b), (1, rk_a 11 x), (2, rk_a 12 m), (3, rk_i (nI k))] [] Z I R := by
  subst hLx
  obtain ⟨N, n, Hs, F, Sv, P, L, C⟩ := C
  obtain ⟨b0, b1, b2, b3, b4, b5, b6⟩ := cL_ins hk hL
  have C2 := C
  obtain ⟨X, M, V, s⟩ := C2
  have V0 := V.1.1
  obtain ⟨⟨c, hp⟩, ⟨oc, hoc, h13, hb⟩, ⟨t, ht, h10⟩, hr⟩ := V0
  have hfl : ∀ o, o < oc → sp_ov N o ∧ ∃ n, n < 2 ^ 20 ∧ N (220 + 7 * o + 3) = nI n := fun o ho => by
    obtain ⟨g1, ⟨n, _, g2, g3⟩, _⟩ := hb o ho
    exact ⟨g1, n, by omega, g3⟩
  refine rk_aload_n 1 dL_law_793 rfl rfl ?_
  refine rk_aload_n 0 dL_law_794 rfl rfl ?_
  refine rk_iload_n 3 dL_law_795 rfl rfl ?_
  refine rk_iconst 1 dL_law_796 (by decide) ?_
  refine rk_iadd dL_law_797 ?_
  refine rk_fald 105 5 (by decide) rfl dL_law_798 (by with_reducible assumption) ?_
  refine rk_pc (pc' := 799) rfl ?_
  refine rk_aload_n 0 dL_law_799 rfl rfl ?_
  refine rk_iload_n 3 dL_law_800 rfl rfl ?_
  refine rk_iconst 2 dL_law_801 (by decide) ?_
  refine rk_iadd dL_law_802 ?_
  refine rk_fald 105 5 (by decide) rfl dL_law_803 (by with_reducible assumption) ?_
  refine rk_cVi (cX10_wouldFill_s V X _ _) rk_eX10_wouldFill rfl ⟨rfl, rfl⟩ rk_kL_87 dL_law_804 rfl (by omega) (Nat.le_of_ble_eq_true rfl) hz (fun xz1 Iz1 Rz1 hz1 => ?_)
  have C1 := cm_ask C hz1.2
  have M1 := C1.2.1
  refine rk_pc (pc' := 807) rfl ?_
  refine rk_aload_n 2 dL_law_807 rfl rfl ?_
  refine rk_aload_n 0 dL_law_808 rfl rfl ?_
  refine rk_iload_n 3 dL_law_809 rfl rfl ?_
  refine rk_iconst 1 dL_law_810 (by decide) ?_
  refine rk_iadd dL_law_811 ?_
  refine rk_fald 105 5 (by decide) rfl dL_law_812 (by with_reducible assumption) ?_
  refine rk_pc (pc' := 813) rfl ?_
  refine rk_aload_n 0 dL_law_813 rfl rfl ?_
  refine rk_iload_n 3 dL_law_814 rfl rfl ?_
  refine rk_iconst 2 dL_law_815 (by decide) ?_
  refine rk_iadd dL_law_816 ?_
  refine rk_fald 105 5 (by decide) rfl dL_law_817 (by with_reducible assumption) ?_
  refine rk_cVi (cX11_wouldFill_s (by rw [M1.1]; exact hp) hoc (by rw [M1.1]; exact h13) (by rw [M1.1]; exact hfl) _ _) rk_eX11_wouldFill rfl ⟨rfl, rfl⟩ rk_kL_90 dL_law_818 rfl (by omega) (Nat.le_of_ble_eq_true rfl) hz (fun xz2 Iz2 Rz2 hz2 => ?_)
  rw [M1.1] at hz2
  obtain ⟨p1, p2, K, p3⟩ := hz2
  have g1 := hz1.1.trans p1.symm
  have g2 : cm rg Iz2 Rz2 x m T := by rw [p2, p3]; exact (cm_oth C1 (by decide) C1.2.2.2.2.2.1).mo (Int.le_refl _)
  refine rk_pc (pc' := 821) rfl ?_
  refine rk_icmp_eq 1056 dL_law_821 (by decide) (fun qz821 => ?_) (fun qz821 => ?_)
  · skip
    obtain ⟨N2, n2, H2, F2, S2, P2, L2, g3⟩ := g2
    exact hq _ _ (g3.mo (by omega))
  · skip
    exact absurd g1 qz821
theorem cL_bestSet (hd : 20 ≤ d) (hz : Z.2.1 ≤ mc ∧ Z.2.2 ≤ ms) (hLx : (rk_fz w 5).2.1 = Lx) (hw : cl_W w) (hk : k + 7 ≤ Lx) (hL : Lx ≤ 3584) (hT : T + 40 ≤ 1000000) (C : cm rg I R x m T) (hq : ∀ I' R', cm rg I' R' x m (T + 40) → rk_Wp w l rk_mL_law d mc ms G 1056 [(0, rk_a 105 b), (1, rk_a 11 x), (2, rk_a 12 m), (3, rk_i (nI k))] [] Z I' R') : rk_Wp w l rk_mL_law d mc ms G 826 [(0, rk_a 105 b), (1, rk_a 11 x), (2, rk_a 12 m), (3, rk_i (nI k))] [] Z I R := by
  subst hLx
  obtain ⟨N, n, Hs, F, Sv, P, L, C⟩ := C
  obtain ⟨b0, b1, b2, b3, b4, b5, b6⟩ := cL_ins hk hL
  have C2 := C
  obtain ⟨X, M, V, s⟩ := C2
  have V0 := V.1.1
  obtain ⟨⟨c, hp⟩, ⟨oc, hoc, h13, hb⟩, ⟨t, ht, h10⟩, hr⟩ := V0
  have hfl : ∀ o, o < oc → sp_ov N o ∧ ∃ n, n < 2 ^ 20 ∧ N (220 + 7 * o + 3) = nI n := fun o ho => by
    obtain ⟨g1, ⟨n, _, g2, g3⟩, _⟩ := hb o ho
    exact ⟨g1, n, by omega, g3⟩
  refine rk_aload_n 1 dL_law_826 rfl rfl ?_
  refine rk_aload_n 0 dL_law_827 rfl rfl ?_
  refine rk_iload_n 3 dL_law_828 rfl rfl ?_
  refine rk_iconst 1 dL_law_829 (by decide) ?_
  refine rk_iadd dL_law_830 ?_
  refine rk_fald 105 5 (by decide) rfl dL_law_831 (by with_reducible assumption) ?_
  refine rk_pc (pc' := 832) rfl ?_
  refine rk_cVi (cX10_bestSet_s V X h13 hoc _) rk_eX10_bestSet rfl ⟨rfl, rfl⟩ rk_kL_91 dL_law_832 rfl (by omega) (Nat.le_of_ble_eq_true rfl) hz (fun xz1 Iz1 Rz1 hz1 => ?_)
  have C1 := cm_ask C hz1.2
  have M1 := C1.2.1
  refine rk_aload_n 2 dL_law_835 rfl rfl ?_
  refine rk_aload_n 0 dL_law_836 rfl rfl ?_
  refine rk_iload_n 3 dL_law_837 rfl rfl ?_
  refine rk_iconst 1 dL_law_838 (by decide) ?_
  refine rk_iadd dL_law_839 ?_
  refine rk_pc (pc' := 840) rfl ?_
  refine rk_fald 105 5 (by decide) rfl dL_law_840 (by with_reducible assumption) ?_
  refine rk_cVi (cX11_bestSet_s (by rw [M1.1]; exact hp) hoc (by rw [M1.1]; exact h13) (by rw [M1.1]; exact hfl) _) rk_eX11_bestSet rfl ⟨rfl, rfl⟩ rk_kL_94 dL_law_841 rfl (by omega) (Nat.le_of_ble_eq_true rfl) hz (fun xz2 Iz2 Rz2 hz2 => ?_)
  rw [M1.1] at hz2
  obtain ⟨p1, p2, K, p3⟩ := hz2
  have g1 := hz1.1.trans p1.symm
  have g2 : cm rg Iz2 Rz2 x m T := by rw [p2, p3]; exact (cm_oth C1 (by decide) C1.2.2.2.2.2.1).mo (Int.le_refl _)
  refine rk_icmp_eq 1056 dL_law_844 (by decide) (fun qz844 => ?_) (fun qz844 => ?_)
  · skip
    obtain ⟨N2, n2, H2, F2, S2, P2, L2, g3⟩ := g2
    exact hq _ _ (g3.mo (by omega))
  · skip
    exact absurd g1 qz844
theorem cL_fewestJoined (hd : 20 ≤ d) (hz : Z.2.1 ≤ mc ∧ Z.2.2 ≤ ms) (hLx : (rk_fz w 5).2.1 = Lx) (hw : cl_W w) (hk : k + 7 ≤ Lx) (hL : Lx ≤ 3584) (hT : T + 40 ≤ 1000000) (C : cm rg I R x m T) (hq : ∀ I' R', cm rg I' R' x m (T + 40) → rk_Wp w l rk_mL_law d mc ms G 1056 [(0, rk_a 105 b), (1, rk_a 11 x), (2, rk_a 12 m), (3, rk_i (nI k))] [] Z I' R') : rk_Wp w l rk_mL_law d mc ms G 849 [(0, rk_a 105 b), (1, rk_a 11 x), (2, rk_a 12 m), (3, rk_i (nI k))] [] Z I R := by
  subst hLx
  obtain ⟨N, n, Hs, F, Sv, P, L, C⟩ := C
  obtain ⟨b0, b1, b2, b3, b4, b5, b6⟩ := cL_ins hk hL
  have C2 := C
  obtain ⟨X, M, V, s⟩ := C2
  have V0 := V.1.1
  obtain ⟨⟨c, hp⟩, ⟨oc, hoc, h13, hb⟩, ⟨t, ht, h10⟩, hr⟩ := V0
  have hfl : ∀ o, o < oc → sp_ov N o ∧ ∃ n, n < 2 ^ 20 ∧ N (220 + 7 * o + 3) = nI n := fun o ho => by
    obtain ⟨g1, ⟨n, _, g2, g3⟩, _⟩ := hb o ho
    exact ⟨g1, n, by omega, g3⟩
  refine rk_aload_n 1 dL_law_849 rfl rfl ?_
  refine rk_aload_n 0 dL_law_850 rfl rfl ?_
  refine rk_iload_n 3 dL_law_851 rfl rfl ?_
  refine rk_iconst 1 dL_law_852 (by decide) ?_
  refine rk_iadd dL_law_853 ?_
  refine rk_fald 105 5 (by decide) rfl dL_law_854 (by with_reducible assumption) ?_
  refine rk_pc (pc' := 855) rfl ?_
  refine rk_aload_n 0 dL_law_855 rfl rfl ?_
  refine rk_iload_n 3 dL_law_856 rfl rfl ?_
  refine rk_iconst 2 dL_law_857 (by decide) ?_
  refine rk_iadd dL_law_858 ?_
  refine rk_fald 105 5 (by decide) rfl dL_law_859 (by with_reducible assumption) ?_
  refine rk_cVp (cX10_fewestJoined_s V X hp.2.1 hp.1 _ _) rk_eX10_fewestJoined rfl ⟨rfl, rfl⟩ rk_kL_95 dL_law_860 rfl (by omega) (Nat.le_of_ble_eq_true rfl) hz ?_
  refine rk_pc (pc' := 863) rfl ?_
  refine rk_aload_n 2 dL_law_863 rfl rfl ?_
  refine rk_aload_n 0 dL_law_864 rfl rfl ?_
  refine rk_iload_n 3 dL_law_865 rfl rfl ?_
  refine rk_iconst 1 dL_law_866 (by decide) ?_
  refine rk_iadd dL_law_867 ?_
  refine rk_fald 105 5 (by decide) rfl dL_law_868 (by with_reducible assumption) ?_
  refine rk_pc (pc' := 869) rfl ?_
  refine rk_aload_n 0 dL_law_869 rfl rfl ?_
  refine rk_iload_n 3 dL_law_870 rfl rfl ?_
  refine rk_iconst 2 dL_law_871 (by decide) ?_
  refine rk_iadd dL_law_872 ?_
  refine rk_fald 105 5 (by decide) rfl dL_law_873 (by with_reducible assumption) ?_
  refine rk_cVi (cX11_fewestJoined_s (by rw [M.1]; exact hp.2.1) hp.1 _ _) rk_eX11_fewestJoined rfl ⟨rfl, rfl⟩ rk_kL_98 dL_law_874 rfl (by omega) (Nat.le_of_ble_eq_true rfl) hz (fun xz1 Iz1 Rz1 hz1 => ?_)
  rw [M.1] at hz1
  obtain ⟨p1, p2, K, p3⟩ := hz1
  have g1 := p1.symm
  have g2 : cm rg Iz1 Rz1 x m T := by rw [p2, p3]; exact (cm_oth C (by decide) s.2.2.2.2.2.2.2.1).mo (Int.le_refl _)
  refine rk_pc (pc' := 877) rfl ?_
  refine rk_icmp_eq 1056 dL_law_877 (by decide) (fun qz877 => ?_) (fun qz877 => ?_)
  · skip
    obtain ⟨N2, n2, H2, F2, S2, P2, L2, g3⟩ := g2
    exact hq _ _ (g3.mo (by omega))
  · skip
    exact absurd g1 qz877
theorem cL_put (hd : 20 ≤ d) (hz : Z.2.1 ≤ mc ∧ Z.2.2 ≤ ms) (hLx : (rk_fz w 5).2.1 = Lx) (hw : cl_W w) (hk : k + 7 ≤ Lx) (hL : Lx ≤ 3584) (hT : T + 40 ≤ 1000000) (C : cm rg I R x m T) (hq : ∀ I' R', cm rg I' R' x m (T + 40) → rk_Wp w l rk_mL_law d mc ms G 1056 [(0, rk_a 105 b), (1, rk_a 11 x), (2, rk_a 12 m), (3, rk_i (nI k))] [] Z I' R') : rk_Wp w l rk_mL_law d mc ms G 905 [(0, rk_a 105 b), (1, rk_a 11 x), (2, rk_a 12 m), (3, rk_i (nI k))] [] Z I R := by
  subst hLx
  obtain ⟨N, n, Hs, F, Sv, P, L, C⟩ := C
  obtain ⟨b0, b1, b2, b3, b4, b5, b6⟩ := cL_ins hk hL
  have C2 := C
  obtain ⟨X, M, V, s⟩ := C2
  have V0 := V.1.1
  obtain ⟨⟨c, hp⟩, ⟨oc, hoc, h13, hb⟩, ⟨t, ht, h10⟩, hr⟩ := V0
  have hfl : ∀ o, o < oc → sp_ov N o ∧ ∃ n, n < 2 ^ 20 ∧ N (220 + 7 * o + 3) = nI n := fun o ho => by
    obtain ⟨g1, ⟨n, _, g2, g3⟩, _⟩ := hb o ho
    exact ⟨g1, n, by omega, g3⟩
  refine rk_aload_n 1 dL_law_905 rfl rfl ?_
  refine rk_aload_n 0 dL_law_906 rfl rfl ?_
  refine rk_iload_n 3 dL_law_907 rfl rfl ?_
  refine rk_iconst 1 dL_law_908 (by decide) ?_
  refine rk_iadd dL_law_909 ?_
  refine rk_fald 105 5 (by decide) rfl dL_law_910 (by with_reducible assumption) ?_
  refine rk_pc (pc' := 911) rfl ?_
  refine rk_i2l dL_law_911 ?_
  refine rk_bipush 32 dL_law_912 (by decide) ?_
  refine rk_lshl dL_law_914 ?_
  refine rk_aload_n 0 dL_law_915 rfl rfl ?_
  refine rk_iload_n 3 dL_law_916 rfl rfl ?_
  refine rk_iconst 2 dL_law_917 (by decide) ?_
  refine rk_pc (pc' := 918) rfl ?_
  refine rk_iadd dL_law_918 ?_
  refine rk_fald 105 5 (by decide) rfl dL_law_919 (by with_reducible assumption) ?_
  refine rk_i2l dL_law_920 ?_
  refine rk_ldc2 4294967295 dL_law_921 (by exact rk_inT 1184 (by decide +kernel) (by decide +kernel)) ?_
  refine rk_land dL_law_924 ?_
  refine rk_lor dL_law_925 ?_
  refine rk_pc (pc' := 926) rfl ?_
  refine rk_cVi (cX10_put_s V X _) rk_eX10_put rfl ⟨rfl, rfl⟩ rk_kL_105 dL_law_926 rfl (by omega) (Nat.le_of_ble_eq_true rfl) hz (fun xz1 Iz1 Rz1 hz1 => ?_)
  have M1 := M.fr s hz1.2.2
  refine rk_aload_n 2 dL_law_929 rfl rfl ?_
  refine rk_aload_n 0 dL_law_930 rfl rfl ?_
  refine rk_iload_n 3 dL_law_931 rfl rfl ?_
  refine rk_iconst 1 dL_law_932 (by decide) ?_
  refine rk_iadd dL_law_933 ?_
  refine rk_pc (pc' := 934) rfl ?_
  refine rk_fald 105 5 (by decide) rfl dL_law_934 (by with_reducible assumption) ?_
  refine rk_i2l dL_law_935 ?_
  refine rk_bipush 32 dL_law_936 (by decide) ?_
  refine rk_lshl dL_law_938 ?_
  refine rk_aload_n 0 dL_law_939 rfl rfl ?_
  refine rk_iload_n 3 dL_law_940 rfl rfl ?_
  refine rk_pc (pc' := 941) rfl ?_
  refine rk_iconst 2 dL_law_941 (by decide) ?_
  refine rk_iadd dL_law_942 ?_
  refine rk_fald 105 5 (by decide) rfl dL_law_943 (by with_reducible assumption) ?_
  refine rk_i2l dL_law_944 ?_
  refine rk_ldc2 4294967295 dL_law_945 (by exact rk_inT 1184 (by decide +kernel) (by decide +kernel)) ?_
  refine rk_land dL_law_948 ?_
  refine rk_pc (pc' := 949) rfl ?_
  refine rk_lor dL_law_949 ?_
  refine rk_cVi (cX11_put_s M1.2.2.2.2.2.1 V.2.2.2.2.1 _) rk_eX11_put rfl ⟨rfl, rfl⟩ rk_kL_109 dL_law_950 rfl (by omega) (Nat.le_of_ble_eq_true rfl) hz (fun xz2 Iz2 Rz2 hz2 => ?_)
  obtain ⟨g1, g2⟩ := cm_put C hz1 hz2
  refine rk_icmp_eq 1056 dL_law_953 (by decide) (fun qz953 => ?_) (fun qz953 => ?_)
  · skip
    obtain ⟨N2, n2, H2, F2, S2, P2, L2, g3⟩ := g2
    exact hq _ _ (g3.mo (by omega))
  · skip
    exact absurd g1 qz953
theorem cL_wipe (hd : 20 ≤ d) (hz : Z.2.1 ≤ mc ∧ Z.2.2 ≤ ms) (hLx : (rk_fz w 5).2.1 = Lx) (hw : cl_W w) (hk : k + 7 ≤ Lx) (hL : Lx ≤ 3584) (hT : T + 40 ≤ 1000000) (C : cm rg I R x m T) (hq : ∀ I' R', cm rg I' R' x m (T + 40) → rk_Wp w l rk_mL_law d mc ms G 1056 [(0, rk_a 105 b), (1, rk_a 11 x), (2, rk_a 12 m), (3, rk_i (nI k))] [] Z I' R') : rk_Wp w l rk_mL_law d mc ms G 958 [(0, rk_a 105 b), (1, rk_a 11 x), (2, rk_a 12 m), (3, rk_i (nI k))] [] Z I R := by
  subst hLx
  obtain ⟨N, n, Hs, F, Sv, P, L, C⟩ := C
  obtain ⟨b0, b1, b2, b3, b4, b5, b6⟩ := cL_ins hk hL
  have C2 := C
  obtain ⟨X, M, V, s⟩ := C2
  have V0 := V.1.1
  obtain ⟨⟨c, hp⟩, ⟨oc, hoc, h13, hb⟩, ⟨t, ht, h10⟩, hr⟩ := V0
  have hfl : ∀ o, o < oc → sp_ov N o ∧ ∃ n, n < 2 ^ 20 ∧ N (220 + 7 * o + 3) = nI n := fun o ho => by
    obtain ⟨g1, ⟨n, _, g2, g3⟩, _⟩ := hb o ho
    exact ⟨g1, n, by omega, g3⟩
  refine rk_aload_n 1 dL_law_958 rfl rfl ?_
  refine rk_cVi (cX10_wipe_s V X) rk_eX10_wipe rfl ⟨rfl, rfl⟩ rk_kL_110 dL_law_959 rfl (by omega) (Nat.le_of_ble_eq_true rfl) hz (fun xz1 Iz1 Rz1 hz1 => ?_)
  skip
  refine rk_aload_n 2 dL_law_962 rfl rfl ?_
  refine rk_cVi (cX11_wipe_s) rk_eX11_wipe rfl ⟨rfl, rfl⟩ rk_kL_114 dL_law_963 rfl (by omega) (Nat.le_of_ble_eq_true rfl) hz (fun xz2 Iz2 Rz2 hz2 => ?_)
  obtain ⟨g1, g2⟩ := cm_wipe C hz1 hz2
  refine rk_icmp_eq 1056 dL_law_966 (by decide) (fun qz966 => ?_) (fun qz966 => ?_)
  · skip
    obtain ⟨N2, n2, H2, F2, S2, P2, L2, g3⟩ := g2
    exact hq _ _ (g3.mo (by omega))
  · skip
    exact absurd g1 qz966
theorem cL_fault (hd : 20 ≤ d) (hz : Z.2.1 ≤ mc ∧ Z.2.2 ≤ ms) (hLx : (rk_fz w 5).2.1 = Lx) (hw : cl_W w) (hk : k + 7 ≤ Lx) (hL : Lx ≤ 3584) (hT : T + 40 ≤ 1000000) (C : cm rg I R x m T) (hq : ∀ I' R', cm rg I' R' x m (T + 40) → rk_Wp w l rk_mL_law d mc ms G 1056 [(0, rk_a 105 b), (1, rk_a 11 x), (2, rk_a 12 m), (3, rk_i (nI k))] [] Z I' R') : rk_Wp w l rk_mL_law d mc ms G 971 [(0, rk_a 105 b), (1, rk_a 11 x), (2, rk_a 12 m), (3, rk_i (nI k))] [] Z I R := by
  subst hLx
  obtain ⟨N, n, Hs, F, Sv, P, L, C⟩ := C
  obtain ⟨b0, b1, b2, b3, b4, b5, b6⟩ := cL_ins hk hL
  have C2 := C
  obtain ⟨X, M, V, s⟩ := C2
  have V0 := V.1.1
  obtain ⟨⟨c, hp⟩, ⟨oc, hoc, h13, hb⟩, ⟨t, ht, h10⟩, hr⟩ := V0
  have hfl : ∀ o, o < oc → sp_ov N o ∧ ∃ n, n < 2 ^ 20 ∧ N (220 + 7 * o + 3) = nI n := fun o ho => by
    obtain ⟨g1, ⟨n, _, g2, g3⟩, _⟩ := hb o ho
    exact ⟨g1, n, by omega, g3⟩
  refine rk_aload_n 1 dL_law_971 rfl rfl ?_
  refine rk_cVi (cX10_fault_s V X (I 33 (R 12 m 10))) rk_eX10_fault rfl ⟨rfl, rfl⟩ rk_kL_115 dL_law_972 rfl (by omega) (Nat.le_of_ble_eq_true rfl) hz (fun xz1 Iz1 Rz1 hz1 => ?_)
  have M1 := M.fr s hz1.2.2
  refine rk_aload_n 2 dL_law_975 rfl rfl ?_
  refine rk_cVi (cX11_fault_s M1.2.2.2.2.2.1 V.2.2.2.2.1) rk_eX11_fault rfl ⟨rfl, rfl⟩ rk_kL_118 dL_law_976 rfl (by omega) (Nat.le_of_ble_eq_true rfl) hz (fun xz2 Iz2 Rz2 hz2 => ?_)
  have eJ : Iz1 33 (Rz1 12 m 10) = I 33 (R 12 m 10) := by
    rw [hz1.2.2.2.2 12 (by decide) (by decide) (by decide)]
    exact hz1.2.2.1 33 _ (by rw [s.2.2.2.2.2.2.2.2]; omega)
  rw [eJ, show pfo (Iz1 31 (Rz1 12 m 6)) L = pfo P L from pfo_cg M1.2.2.2.2.1] at hz2
  obtain ⟨p1, p2, p3⟩ := hz2
  have g1 := hz1.1.trans p1.symm
  have g2 := cm_fault C (J := I 33 (R 12 m 10)) hz1.2 ⟨p2, p3⟩
  refine rk_icmp_eq 1056 dL_law_979 (by decide) (fun qz979 => ?_) (fun qz979 => ?_)
  · skip
    obtain ⟨N2, n2, H2, F2, S2, P2, L2, g3⟩ := g2
    exact hq _ _ (g3.mo (by omega))
  · skip
    exact absurd g1 qz979
theorem cL_carryOut (hd : 20 ≤ d) (hz : Z.2.1 ≤ mc ∧ Z.2.2 ≤ ms) (hLx : (rk_fz w 5).2.1 = Lx) (hw : cl_W w) (hk : k + 7 ≤ Lx) (hL : Lx ≤ 3584) (hT : T + 40 ≤ 1000000) (C : cm rg I R x m T) (hq : ∀ I' R', cm rg I' R' x m (T + 40) → rk_Wp w l rk_mL_law d mc ms G 1056 [(0, rk_a 105 b), (1, rk_a 11 x), (2, rk_a 12 m), (3, rk_i (nI k))] [] Z I' R') : rk_Wp w l rk_mL_law d mc ms G 984 [(0, rk_a 105 b), (1, rk_a 11 x), (2, rk_a 12 m), (3, rk_i (nI k))] [] Z I R := by
  subst hLx
  obtain ⟨N, n, Hs, F, Sv, P, L, C⟩ := C
  obtain ⟨b0, b1, b2, b3, b4, b5, b6⟩ := cL_ins hk hL
  have C2 := C
  obtain ⟨X, M, V, s⟩ := C2
  have V0 := V.1.1
  obtain ⟨⟨c, hp⟩, ⟨oc, hoc, h13, hb⟩, ⟨t, ht, h10⟩, hr⟩ := V0
  have hfl : ∀ o, o < oc → sp_ov N o ∧ ∃ n, n < 2 ^ 20 ∧ N (220 + 7 * o + 3) = nI n := fun o ho => by
    obtain ⟨g1, ⟨n, _, g2, g3⟩, _⟩ := hb o ho
    exact ⟨g1, n, by omega, g3⟩
  refine rk_aload_n 1 dL_law_984 rfl rfl ?_
  refine rk_cVi (cX10_carryOut_s (by omega) V X (I 33 (R 12 m 10))) rk_eX10_carryOut rfl ⟨rfl, rfl⟩ rk_kL_119 dL_law_985 rfl (by omega) (Nat.le_of_ble_eq_true rfl) hz (fun xz1 Iz1 Rz1 hz1 => ?_)
  have hfr : cl_fr rg (fun z => z < 104) I R Iz1 Rz1 := by
    cases hh : (pfo P L (I 33 (R 12 m 10))).1.2 with
    | true => exact (hz1.1 hh).2.2
    | false => exact (hz1.2 hh).2.2
  have M1 := M.fr s hfr
  refine rk_aload_n 2 dL_law_988 rfl rfl ?_
  refine rk_cVi (cX11_carryOut_s (T := T) M1.2.1 V.2.1 M1.2.2.2.2.2.2 M1.2.2.2.2.2.1 V.2.2.2.2.1 (by rw [M1.1]; exact V.1.1) (by omega)) rk_eX11_carryOut rfl ⟨rfl, rfl⟩ rk_kL_122 dL_law_989 rfl (by omega) (Nat.le_of_ble_eq_true rfl) hz (fun xz2 Iz2 Rz2 hz2 => ?_)
  obtain ⟨g1, g2⟩ := cm_carry (by omega) C hz1 hfr hz2
  refine rk_icmp_eq 1056 dL_law_992 (by decide) (fun qz992 => ?_) (fun qz992 => ?_)
  · skip
    obtain ⟨N2, n2, H2, F2, S2, P2, L2, g3⟩ := g2
    exact hq _ _ (g3.mo (by omega))
  · skip
    exact absurd g1 qz992
theorem cL_undo (hd : 20 ≤ d) (hz : Z.2.1 ≤ mc ∧ Z.2.2 ≤ ms) (hLx : (rk_fz w 5).2.1 = Lx) (hw : cl_W w) (hk : k + 7 ≤ Lx) (hL : Lx ≤ 3584) (hT : T + 40 ≤ 1000000) (C : cm rg I R x m T) (hq : ∀ I' R', cm rg I' R' x m (T + 40) → rk_Wp w l rk_mL_law d mc ms G 1056 [(0, rk_a 105 b), (1, rk_a 11 x), (2, rk_a 12 m), (3, rk_i (nI k))] [] Z I' R') : rk_Wp w l rk_mL_law d mc ms G 997 [(0, rk_a 105 b), (1, rk_a 11 x), (2, rk_a 12 m), (3, rk_i (nI k))] [] Z I R := by
  subst hLx
  obtain ⟨N, n, Hs, F, Sv, P, L, C⟩ := C
  obtain ⟨b0, b1, b2, b3, b4, b5, b6⟩ := cL_ins hk hL
  have C2 := C
  obtain ⟨X, M, V, s⟩ := C2
  have V0 := V.1.1
  obtain ⟨⟨c, hp⟩, ⟨oc, hoc, h13, hb⟩, ⟨t, ht, h10⟩, hr⟩ := V0
  have hfl : ∀ o, o < oc → sp_ov N o ∧ ∃ n, n < 2 ^ 20 ∧ N (220 + 7 * o + 3) = nI n := fun o ho => by
    obtain ⟨g1, ⟨n, _, g2, g3⟩, _⟩ := hb o ho
    exact ⟨g1, n, by omega, g3⟩
  refine rk_aload_n 1 dL_law_997 rfl rfl ?_
  refine rk_cVi (cX10_undo_s V X) rk_eX10_undo rfl ⟨rfl, rfl⟩ rk_kL_123 dL_law_998 rfl (by omega) (Nat.le_of_ble_eq_true rfl) hz (fun xz1 Iz1 Rz1 hz1 => ?_)
  have M1 := M.fr s hz1.2.2
  refine rk_aload_n 2 dL_law_1001 rfl rfl ?_
  refine rk_cVi (cX11_undo_s M1.2.1 V.2.1) rk_eX11_undo rfl ⟨rfl, rfl⟩ rk_kL_126 dL_law_1002 rfl (by omega) (Nat.le_of_ble_eq_true rfl) hz (fun xz2 Iz2 Rz2 hz2 => ?_)
  obtain ⟨g1, g2⟩ := cm_undo C hz1 hz2
  refine rk_icmp_eq 1056 dL_law_1005 (by decide) (fun qz1005 => ?_) (fun qz1005 => ?_)
  · skip
    obtain ⟨N2, n2, H2, F2, S2, P2, L2, g3⟩ := g2
    exact hq _ _ (g3.mo (by omega))
  · skip
    exact absurd g1 qz1005
theorem cL_save (hd : 20 ≤ d) (hz : Z.2.1 ≤ mc ∧ Z.2.2 ≤ ms) (hLx : (rk_fz w 5).2.1 = Lx) (hw : cl_W w) (hk : k + 7 ≤ Lx) (hL : Lx ≤ 3584) (hT : T + 40 ≤ 1000000) (C : cm rg I R x m T) (hq : ∀ I' R', cm rg I' R' x m (T + 40) → rk_Wp w l rk_mL_law d mc ms G 1056 [(0, rk_a 105 b), (1, rk_a 11 x), (2, rk_a 12 m), (3, rk_i (nI k))] [] Z I' R') : rk_Wp w l rk_mL_law d mc ms G 1010 [(0, rk_a 105 b), (1, rk_a 11 x), (2, rk_a 12 m), (3, rk_i (nI k))] [] Z I R := by
  subst hLx
  obtain ⟨N, n, Hs, F, Sv, P, L, C⟩ := C
  obtain ⟨b0, b1, b2, b3, b4, b5, b6⟩ := cL_ins hk hL
  have C2 := C
  obtain ⟨X, M, V, s⟩ := C2
  have V0 := V.1.1
  obtain ⟨⟨c, hp⟩, ⟨oc, hoc, h13, hb⟩, ⟨t, ht, h10⟩, hr⟩ := V0
  have hfl : ∀ o, o < oc → sp_ov N o ∧ ∃ n, n < 2 ^ 20 ∧ N (220 + 7 * o + 3) = nI n := fun o ho => by
    obtain ⟨g1, ⟨n, _, g2, g3⟩, _⟩ := hb o ho
    exact ⟨g1, n, by omega, g3⟩
  refine rk_aload_n 1 dL_law_1010 rfl rfl ?_
  refine rk_aload_n 0 dL_law_1011 rfl rfl ?_
  refine rk_iload_n 3 dL_law_1012 rfl rfl ?_
  refine rk_iconst 1 dL_law_1013 (by decide) ?_
  refine rk_iadd dL_law_1014 ?_
  refine rk_fald 105 5 (by decide) rfl dL_law_1015 (by with_reducible assumption) ?_
  refine rk_pc (pc' := 1016) rfl ?_
  refine rk_cVi (cX10_save_s V X _) rk_eX10_save rfl ⟨rfl, rfl⟩ rk_kL_127 dL_law_1016 rfl (by omega) (Nat.le_of_ble_eq_true rfl) hz (fun xz1 Iz1 Rz1 hz1 => ?_)
  skip
  refine rk_aload_n 2 dL_law_1019 rfl rfl ?_
  refine rk_aload_n 0 dL_law_1020 rfl rfl ?_
  refine rk_iload_n 3 dL_law_1021 rfl rfl ?_
  refine rk_iconst 1 dL_law_1022 (by decide) ?_
  refine rk_iadd dL_law_1023 ?_
  refine rk_pc (pc' := 1024) rfl ?_
  refine rk_fald 105 5 (by decide) rfl dL_law_1024 (by with_reducible assumption) ?_
  refine rk_cVi (cX11_save_s _) rk_eX11_save rfl ⟨rfl, rfl⟩ rk_kL_130 dL_law_1025 rfl (by omega) (Nat.le_of_ble_eq_true rfl) hz (fun xz2 Iz2 Rz2 hz2 => ?_)
  obtain ⟨g1, g2⟩ := cm_save C hz1 hz2
  refine rk_icmp_eq 1056 dL_law_1028 (by decide) (fun qz1028 => ?_) (fun qz1028 => ?_)
  · skip
    obtain ⟨N2, n2, H2, F2, S2, P2, L2, g3⟩ := g2
    exact hq _ _ (g3.mo (by omega))
  · skip
    exact absurd g1 qz1028
theorem cL_restore (hd : 20 ≤ d) (hz : Z.2.1 ≤ mc ∧ Z.2.2 ≤ ms) (hLx : (rk_fz w 5).2.1 = Lx) (hw : cl_W w) (hk : k + 7 ≤ Lx) (hL : Lx ≤ 3584) (hT : T + 40 ≤ 1000000) (C : cm rg I R x m T) (hq : ∀ I' R', cm rg I' R' x m (T + 40) → rk_Wp w l rk_mL_law d mc ms G 1056 [(0, rk_a 105 b), (1, rk_a 11 x), (2, rk_a 12 m), (3, rk_i (nI k))] [] Z I' R') : rk_Wp w l rk_mL_law d mc ms G 1033 [(0, rk_a 105 b), (1, rk_a 11 x), (2, rk_a 12 m), (3, rk_i (nI k))] [] Z I R := by
  subst hLx
  obtain ⟨N, n, Hs, F, Sv, P, L, C⟩ := C
  obtain ⟨b0, b1, b2, b3, b4, b5, b6⟩ := cL_ins hk hL
  have C2 := C
  obtain ⟨X, M, V, s⟩ := C2
  have V0 := V.1.1
  obtain ⟨⟨c, hp⟩, ⟨oc, hoc, h13, hb⟩, ⟨t, ht, h10⟩, hr⟩ := V0
  have hfl : ∀ o, o < oc → sp_ov N o ∧ ∃ n, n < 2 ^ 20 ∧ N (220 + 7 * o + 3) = nI n := fun o ho => by
    obtain ⟨g1, ⟨n, _, g2, g3⟩, _⟩ := hb o ho
    exact ⟨g1, n, by omega, g3⟩
  obtain ⟨kv, hkv⟩ : ∃ kv, kv = (rk_fz w 5).2.2 (nI k + 1).toNatClampNeg := ⟨_, rfl⟩
  refine rk_aload_n 1 dL_law_1033 rfl rfl ?_
  refine rk_aload_n 0 dL_law_1034 rfl rfl ?_
  refine rk_iload_n 3 dL_law_1035 rfl rfl ?_
  refine rk_iconst 1 dL_law_1036 (by decide) ?_
  refine rk_iadd dL_law_1037 ?_
  refine rk_fald 105 5 (by decide) rfl dL_law_1038 (by with_reducible assumption) ?_
  rw [← hkv]
  refine rk_pc (pc' := 1039) rfl ?_
  refine rk_cVi (cX10_restore_s V X _) rk_eX10_restore rfl ⟨rfl, rfl⟩ rk_kL_131 dL_law_1039 rfl (by omega) (Nat.le_of_ble_eq_true rfl) hz (fun xz1 Iz1 Rz1 hz1 => ?_)
  have hfr : cl_fr rg (fun z => z < 104) I R Iz1 Rz1 := by
    by_cases hr0 : 0 ≤ kv ∧ kv ≤ 1
    · obtain ⟨b9, hb9, e9⟩ := rk_in_n (n := 1) rfl (by decide) hr0
      by_cases hF : F b9 = 0
      · exact ((hz1.2 b9 (by omega) e9).1 hF).2.2
      · exact ((hz1.2 b9 (by omega) e9).2 hF).2.2
    · exact (hz1.1 hr0).2.2
  have M1 := M.fr s hfr
  refine rk_aload_n 2 dL_law_1042 rfl rfl ?_
  refine rk_aload_n 0 dL_law_1043 rfl rfl ?_
  refine rk_iload_n 3 dL_law_1044 rfl rfl ?_
  refine rk_iconst 1 dL_law_1045 (by decide) ?_
  refine rk_iadd dL_law_1046 ?_
  refine rk_pc (pc' := 1047) rfl ?_
  refine rk_fald 105 5 (by decide) rfl dL_law_1047 (by with_reducible assumption) ?_
  rw [← hkv]
  refine rk_cVi (cX11_restore_s M1.2.1 V.2.1 _) rk_eX11_restore rfl ⟨rfl, rfl⟩ rk_kL_134 dL_law_1048 rfl (by omega) (Nat.le_of_ble_eq_true rfl) hz (fun xz2 Iz2 Rz2 hz2 => ?_)
  obtain ⟨g1, g2⟩ := cm_restore C hz1 hz2 hfr
  refine rk_icmp_eq 1056 dL_law_1051 (by decide) (fun qz1051 => ?_) (fun qz1051 => ?_)
  · skip
    obtain ⟨N2, n2, H2, F2, S2, P2, L2, g3⟩ := g2
    exact hq _ _ (g3.mo (by omega))
  · skip
    exact absurd g1 qz1051
end EW

