def s00 : mS := (fun _ _ => 0, fun _ _ => 0, fun _ _ => none)
def initS (v : Int32) : mS := g_Mo (g_LP s00 v) v
def shY (σ : mS) : mS := (fun k => σ.1 (99 + k), fun k => σ.2.1 (99 + k), fun k => σ.2.2 (99 + k))
theorem s00_I : mI 0 s00 := ⟨fun k j y hk => absurd hk (Nat.not_lt_zero _), fun k _ => ⟨rfl, rfl, rfl⟩⟩
set_option maxRecDepth 100000 in
theorem sp_0 (cA ad : Nat → Nat) (v : Int32) : mE ad (initS v) 0 (tbC cA 0) = mE ad (initS v) 0 (tbX cA 0) := rfl
set_option maxRecDepth 100000 in
theorem sp_1 (cA ad : Nat → Nat) (v : Int32) : mE ad (initS v) 1 (tbC cA 1) = mE ad (initS v) 1 (tbX cA 1) := rfl
set_option maxRecDepth 100000 in
theorem sp_2 (cA ad : Nat → Nat) (v : Int32) : mE ad (initS v) 2 (tbC cA 2) = mE ad (initS v) 2 (tbX cA 2) := rfl
set_option maxRecDepth 100000 in
theorem sp_3 (cA ad : Nat → Nat) (v : Int32) : mE ad (initS v) 3 (tbC cA 3) = mE ad (initS v) 3 (tbX cA 3) := rfl
set_option maxRecDepth 100000 in
theorem sp_4 (cA ad : Nat → Nat) (v : Int32) : mE ad (initS v) 4 (tbC cA 4) = mE ad (initS v) 4 (tbX cA 4) := rfl
set_option maxRecDepth 100000 in
theorem sp_5 (cA ad : Nat → Nat) (v : Int32) : mE ad (initS v) 5 (tbC cA 5) = mE ad (initS v) 5 (tbX cA 5) := rfl
set_option maxRecDepth 100000 in
theorem sp_6 (cA ad : Nat → Nat) (v : Int32) : mE ad (initS v) 6 (tbC cA 6) = mE ad (initS v) 6 (tbX cA 6) := rfl
set_option maxRecDepth 100000 in
theorem sp_7 (cA ad : Nat → Nat) (v : Int32) : mE ad (initS v) 7 (tbC cA 7) = mE ad (initS v) 7 (tbX cA 7) := rfl
set_option maxRecDepth 100000 in
theorem sp_8 (cA ad : Nat → Nat) (v : Int32) : mE ad (initS v) 8 (tbC cA 8) = mE ad (initS v) 8 (tbX cA 8) := rfl
set_option maxRecDepth 100000 in
theorem sp_9 (cA ad : Nat → Nat) (v : Int32) : mE ad (initS v) 9 (tbC cA 9) = mE ad (initS v) 9 (tbX cA 9) := rfl
set_option maxRecDepth 100000 in
theorem sp_10 (cA ad : Nat → Nat) (v : Int32) : mE ad (initS v) 10 (tbC cA 10) = mE ad (initS v) 10 (tbX cA 10) := rfl
set_option maxRecDepth 100000 in
theorem sp_11 (cA ad : Nat → Nat) (v : Int32) : mE ad (initS v) 11 (tbC cA 11) = mE ad (initS v) 11 (tbX cA 11) := rfl
set_option maxRecDepth 100000 in
theorem sp_12 (cA ad : Nat → Nat) (v : Int32) : mE ad (initS v) 12 (tbC cA 12) = mE ad (initS v) 12 (tbX cA 12) := rfl
set_option maxRecDepth 100000 in
theorem sp_13 (cA ad : Nat → Nat) (v : Int32) : mE ad (initS v) 13 (tbC cA 13) = mE ad (initS v) 13 (tbX cA 13) := rfl
set_option maxRecDepth 100000 in
theorem sp_14 (cA ad : Nat → Nat) (v : Int32) : mE ad (initS v) 14 (tbC cA 14) = mE ad (initS v) 14 (tbX cA 14) := rfl
set_option maxRecDepth 100000 in
theorem sp_15 (cA ad : Nat → Nat) (v : Int32) : mE ad (initS v) 15 (tbC cA 15) = mE ad (initS v) 15 (tbX cA 15) := rfl
set_option maxRecDepth 100000 in
theorem sp_16 (cA ad : Nat → Nat) (v : Int32) : mE ad (initS v) 16 (tbC cA 16) = mE ad (initS v) 16 (tbX cA 16) := rfl
set_option maxRecDepth 100000 in
theorem sp_17 (cA ad : Nat → Nat) (v : Int32) : mE ad (initS v) 17 (tbC cA 17) = mE ad (initS v) 17 (tbX cA 17) := rfl
set_option maxRecDepth 100000 in
theorem sp_18 (cA ad : Nat → Nat) (v : Int32) : mE ad (initS v) 18 (tbC cA 18) = mE ad (initS v) 18 (tbX cA 18) := rfl
set_option maxRecDepth 100000 in
theorem sp_19 (cA ad : Nat → Nat) (v : Int32) : mE ad (initS v) 19 (tbC cA 19) = mE ad (initS v) 19 (tbX cA 19) := rfl
set_option maxRecDepth 100000 in
theorem sp_20 (cA ad : Nat → Nat) (v : Int32) : mE ad (initS v) 20 (tbC cA 20) = mE ad (initS v) 20 (tbX cA 20) := rfl
set_option maxRecDepth 100000 in
theorem sp_21 (cA ad : Nat → Nat) (v : Int32) : mE ad (initS v) 21 (tbC cA 21) = mE ad (initS v) 21 (tbX cA 21) := rfl
set_option maxRecDepth 100000 in
theorem sp_22 (cA ad : Nat → Nat) (v : Int32) : mE ad (initS v) 22 (tbC cA 22) = mE ad (initS v) 22 (tbX cA 22) := rfl
set_option maxRecDepth 100000 in
theorem sp_23 (cA ad : Nat → Nat) (v : Int32) : mE ad (initS v) 23 (tbC cA 23) = mE ad (initS v) 23 (tbX cA 23) := rfl
set_option maxRecDepth 100000 in
theorem sp_24 (cA ad : Nat → Nat) (v : Int32) : mE ad (initS v) 24 (tbC cA 24) = mE ad (initS v) 24 (tbX cA 24) := rfl
set_option maxRecDepth 100000 in
theorem sp_25 (cA ad : Nat → Nat) (v : Int32) : mE ad (initS v) 25 (tbC cA 25) = mE ad (initS v) 25 (tbX cA 25) := rfl
set_option maxRecDepth 100000 in
theorem sp_26 (cA ad : Nat → Nat) (v : Int32) : mE ad (initS v) 26 (tbC cA 26) = mE ad (initS v) 26 (tbX cA 26) := rfl
set_option maxRecDepth 100000 in
theorem sp_27 (cA ad : Nat → Nat) (v : Int32) : mE ad (initS v) 27 (tbC cA 27) = mE ad (initS v) 27 (tbX cA 27) := rfl
set_option maxRecDepth 100000 in
theorem sp_28 (cA ad : Nat → Nat) (v : Int32) : mE ad (initS v) 28 (tbC cA 28) = mE ad (initS v) 28 (tbX cA 28) := rfl
set_option maxRecDepth 100000 in
theorem sp_29 (cA ad : Nat → Nat) (v : Int32) : mE ad (initS v) 29 (tbC cA 29) = mE ad (initS v) 29 (tbX cA 29) := rfl
set_option maxRecDepth 100000 in
theorem sp_30 (cA ad : Nat → Nat) (v : Int32) : mE ad (initS v) 30 (tbC cA 30) = mE ad (initS v) 30 (tbX cA 30) := rfl
set_option maxRecDepth 100000 in
theorem sp_31 (cA ad : Nat → Nat) (v : Int32) : mE ad (initS v) 31 (tbC cA 31) = mE ad (initS v) 31 (tbX cA 31) := rfl
set_option maxRecDepth 100000 in
theorem sp_32 (cA ad : Nat → Nat) (v : Int32) : mE ad (initS v) 32 (tbC cA 32) = mE ad (initS v) 32 (tbX cA 32) := rfl
set_option maxRecDepth 100000 in
theorem sp_33 (cA ad : Nat → Nat) (v : Int32) : mE ad (initS v) 33 (tbC cA 33) = mE ad (initS v) 33 (tbX cA 33) := rfl
set_option maxRecDepth 100000 in
theorem sp_34 (cA ad : Nat → Nat) (v : Int32) : mE ad (initS v) 34 (tbC cA 34) = mE ad (initS v) 34 (tbX cA 34) := rfl
set_option maxRecDepth 100000 in
theorem sp_35 (cA ad : Nat → Nat) (v : Int32) : mE ad (initS v) 35 (tbC cA 35) = mE ad (initS v) 35 (tbX cA 35) := rfl
set_option maxRecDepth 100000 in
theorem sp_36 (cA ad : Nat → Nat) (v : Int32) : mE ad (initS v) 36 (tbC cA 36) = mE ad (initS v) 36 (tbX cA 36) := rfl
set_option maxRecDepth 100000 in
theorem sp_37 (cA ad : Nat → Nat) (v : Int32) : mE ad (initS v) 37 (tbC cA 37) = mE ad (initS v) 37 (tbX cA 37) := rfl
set_option maxRecDepth 100000 in
theorem sp_38 (cA ad : Nat → Nat) (v : Int32) : mE ad (initS v) 38 (tbC cA 38) = mE ad (initS v) 38 (tbX cA 38) := rfl
set_option maxRecDepth 100000 in
theorem sp_39 (cA ad : Nat → Nat) (v : Int32) : mE ad (initS v) 39 (tbC cA 39) = mE ad (initS v) 39 (tbX cA 39) := rfl
set_option maxRecDepth 100000 in
theorem sp_40 (cA ad : Nat → Nat) (v : Int32) : mE ad (initS v) 40 (tbC cA 40) = mE ad (initS v) 40 (tbX cA 40) := rfl
set_option maxRecDepth 100000 in
theorem sp_41 (cA ad : Nat → Nat) (v : Int32) : mE ad (initS v) 41 (tbC cA 41) = mE ad (initS v) 41 (tbX cA 41) := rfl
set_option maxRecDepth 100000 in
theorem sp_42 (cA ad : Nat → Nat) (v : Int32) : mE ad (initS v) 42 (tbC cA 42) = mE ad (initS v) 42 (tbX cA 42) := rfl
set_option maxRecDepth 100000 in
theorem sp_43 (cA ad : Nat → Nat) (v : Int32) : mE ad (initS v) 43 (tbC cA 43) = mE ad (initS v) 43 (tbX cA 43) := rfl
set_option maxRecDepth 100000 in
theorem sp_44 (cA ad : Nat → Nat) (v : Int32) : mE ad (initS v) 44 (tbC cA 44) = mE ad (initS v) 44 (tbX cA 44) := rfl
set_option maxRecDepth 100000 in
theorem sp_45 (cA ad : Nat → Nat) (v : Int32) : mE ad (initS v) 45 (tbC cA 45) = mE ad (initS v) 45 (tbX cA 45) := rfl
set_option maxRecDepth 100000 in
theorem sp_46 (cA ad : Nat → Nat) (v : Int32) : mE ad (initS v) 46 (tbC cA 46) = mE ad (initS v) 46 (tbX cA 46) := rfl
set_option maxRecDepth 100000 in
theorem sp_47 (cA ad : Nat → Nat) (v : Int32) : mE ad (initS v) 47 (tbC cA 47) = mE ad (initS v) 47 (tbX cA 47) := rfl
set_option maxRecDepth 100000 in
theorem sp_48 (cA ad : Nat → Nat) (v : Int32) : mE ad (initS v) 48 (tbC cA 48) = mE ad (initS v) 48 (tbX cA 48) := rfl
set_option maxRecDepth 100000 in
theorem sp_49 (cA ad : Nat → Nat) (v : Int32) : mE ad (initS v) 49 (tbC cA 49) = mE ad (initS v) 49 (tbX cA 49) := rfl
set_option maxRecDepth 100000 in
theorem sp_50 (cA ad : Nat → Nat) (v : Int32) : mE ad (initS v) 50 (tbC cA 50) = mE ad (initS v) 50 (tbX cA 50) := rfl
set_option maxRecDepth 100000 in
theorem sp_51 (cA ad : Nat → Nat) (v : Int32) : mE ad (initS v) 51 (tbC cA 51) = mE ad (initS v) 51 (tbX cA 51) := rfl
set_option maxRecDepth 100000 in
theorem sp_52 (cA ad : Nat → Nat) (v : Int32) : mE ad (initS v) 52 (tbC cA 52) = mE ad (initS v) 52 (tbX cA 52) := rfl
set_option maxRecDepth 100000 in
theorem sp_53 (cA ad : Nat → Nat) (v : Int32) : mE ad (initS v) 53 (tbC cA 53) = mE ad (initS v) 53 (tbX cA 53) := rfl
set_option maxRecDepth 100000 in
theorem sp_54 (cA ad : Nat → Nat) (v : Int32) : mE ad (initS v) 54 (tbC cA 54) = mE ad (initS v) 54 (tbX cA 54) := rfl
set_option maxRecDepth 100000 in
theorem sp_55 (cA ad : Nat → Nat) (v : Int32) : mE ad (initS v) 55 (tbC cA 55) = mE ad (initS v) 55 (tbX cA 55) := rfl
set_option maxRecDepth 100000 in
theorem sp_56 (cA ad : Nat → Nat) (v : Int32) : mE ad (initS v) 56 (tbC cA 56) = mE ad (initS v) 56 (tbX cA 56) := rfl
set_option maxRecDepth 100000 in
theorem sp_57 (cA ad : Nat → Nat) (v : Int32) : mE ad (initS v) 57 (tbC cA 57) = mE ad (initS v) 57 (tbX cA 57) := rfl
set_option maxRecDepth 100000 in
theorem sp_58 (cA ad : Nat → Nat) (v : Int32) : mE ad (initS v) 58 (tbC cA 58) = mE ad (initS v) 58 (tbX cA 58) := rfl
set_option maxRecDepth 100000 in
theorem sp_59 (cA ad : Nat → Nat) (v : Int32) : mE ad (initS v) 59 (tbC cA 59) = mE ad (initS v) 59 (tbX cA 59) := rfl
set_option maxRecDepth 100000 in
theorem sp_60 (cA ad : Nat → Nat) (v : Int32) : mE ad (initS v) 60 (tbC cA 60) = mE ad (initS v) 60 (tbX cA 60) := rfl
set_option maxRecDepth 100000 in
theorem sp_61 (cA ad : Nat → Nat) (v : Int32) : mE ad (initS v) 61 (tbC cA 61) = mE ad (initS v) 61 (tbX cA 61) := rfl
set_option maxRecDepth 100000 in
theorem sp_62 (cA ad : Nat → Nat) (v : Int32) : mE ad (initS v) 62 (tbC cA 62) = mE ad (initS v) 62 (tbX cA 62) := rfl
set_option maxRecDepth 100000 in
theorem sp_63 (cA ad : Nat → Nat) (v : Int32) : mE ad (initS v) 63 (tbC cA 63) = mE ad (initS v) 63 (tbX cA 63) := rfl
set_option maxRecDepth 100000 in
theorem sp_64 (cA ad : Nat → Nat) (v : Int32) : mE ad (initS v) 64 (tbC cA 64) = mE ad (initS v) 64 (tbX cA 64) := rfl
set_option maxRecDepth 100000 in
theorem sp_65 (cA ad : Nat → Nat) (v : Int32) : mE ad (initS v) 65 (tbC cA 65) = mE ad (initS v) 65 (tbX cA 65) := rfl
set_option maxRecDepth 100000 in
theorem sp_66 (cA ad : Nat → Nat) (v : Int32) : mE ad (initS v) 66 (tbC cA 66) = mE ad (initS v) 66 (tbX cA 66) := rfl
set_option maxRecDepth 100000 in
theorem sp_67 (cA ad : Nat → Nat) (v : Int32) : mE ad (initS v) 67 (tbC cA 67) = mE ad (initS v) 67 (tbX cA 67) := rfl
set_option maxRecDepth 100000 in
theorem sp_68 (cA ad : Nat → Nat) (v : Int32) : mE ad (initS v) 68 (tbC cA 68) = mE ad (initS v) 68 (tbX cA 68) := rfl
set_option maxRecDepth 100000 in
theorem sp_69 (cA ad : Nat → Nat) (v : Int32) : mE ad (initS v) 69 (tbC cA 69) = mE ad (initS v) 69 (tbX cA 69) := rfl
set_option maxRecDepth 100000 in
theorem sp_70 (cA ad : Nat → Nat) (v : Int32) : mE ad (initS v) 70 (tbC cA 70) = mE ad (initS v) 70 (tbX cA 70) := rfl
set_option maxRecDepth 100000 in
theorem sp_71 (cA ad : Nat → Nat) (v : Int32) : mE ad (initS v) 71 (tbC cA 71) = mE ad (initS v) 71 (tbX cA 71) := rfl
set_option maxRecDepth 100000 in
theorem sp_72 (cA ad : Nat → Nat) (v : Int32) : mE ad (initS v) 72 (tbC cA 72) = mE ad (initS v) 72 (tbX cA 72) := rfl
set_option maxRecDepth 100000 in
theorem sp_73 (cA ad : Nat → Nat) (v : Int32) : mE ad (initS v) 73 (tbC cA 73) = mE ad (initS v) 73 (tbX cA 73) := rfl
set_option maxRecDepth 100000 in
theorem sp_74 (cA ad : Nat → Nat) (v : Int32) : mE ad (initS v) 74 (tbC cA 74) = mE ad (initS v) 74 (tbX cA 74) := rfl
set_option maxRecDepth 100000 in
theorem sp_75 (cA ad : Nat → Nat) (v : Int32) : mE ad (initS v) 75 (tbC cA 75) = mE ad (initS v) 75 (tbX cA 75) := rfl
set_option maxRecDepth 100000 in
theorem sp_76 (cA ad : Nat → Nat) (v : Int32) : mE ad (initS v) 76 (tbC cA 76) = mE ad (initS v) 76 (tbX cA 76) := rfl
set_option maxRecDepth 100000 in
theorem sp_77 (cA ad : Nat → Nat) (v : Int32) : mE ad (initS v) 77 (tbC cA 77) = mE ad (initS v) 77 (tbX cA 77) := rfl
set_option maxRecDepth 100000 in
theorem sp_78 (cA ad : Nat → Nat) (v : Int32) : mE ad (initS v) 78 (tbC cA 78) = mE ad (initS v) 78 (tbX cA 78) := rfl
set_option maxRecDepth 100000 in
theorem sp_79 (cA ad : Nat → Nat) (v : Int32) : mE ad (initS v) 79 (tbC cA 79) = mE ad (initS v) 79 (tbX cA 79) := rfl
set_option maxRecDepth 100000 in
theorem sp_80 (cA ad : Nat → Nat) (v : Int32) : mE ad (initS v) 80 (tbC cA 80) = mE ad (initS v) 80 (tbX cA 80) := rfl
set_option maxRecDepth 100000 in
theorem sp_81 (cA ad : Nat → Nat) (v : Int32) : mE ad (initS v) 81 (tbC cA 81) = mE ad (initS v) 81 (tbX cA 81) := rfl
set_option maxRecDepth 100000 in
theorem sp_82 (cA ad : Nat → Nat) (v : Int32) : mE ad (initS v) 82 (tbC cA 82) = mE ad (initS v) 82 (tbX cA 82) := rfl
set_option maxRecDepth 100000 in
theorem sp_83 (cA ad : Nat → Nat) (v : Int32) : mE ad (initS v) 83 (tbC cA 83) = mE ad (initS v) 83 (tbX cA 83) := rfl
set_option maxRecDepth 100000 in
theorem sp_84 (cA ad : Nat → Nat) (v : Int32) : mE ad (initS v) 84 (tbC cA 84) = mE ad (initS v) 84 (tbX cA 84) := rfl
set_option maxRecDepth 100000 in
theorem sp_85 (cA ad : Nat → Nat) (v : Int32) : mE ad (initS v) 85 (tbC cA 85) = mE ad (initS v) 85 (tbX cA 85) := rfl
set_option maxRecDepth 100000 in
theorem sp_86 (cA ad : Nat → Nat) (v : Int32) : mE ad (initS v) 86 (tbC cA 86) = mE ad (initS v) 86 (tbX cA 86) := rfl
set_option maxRecDepth 100000 in
theorem sp_87 (cA ad : Nat → Nat) (v : Int32) : mE ad (initS v) 87 (tbC cA 87) = mE ad (initS v) 87 (tbX cA 87) := rfl
set_option maxRecDepth 100000 in
theorem sp_88 (cA ad : Nat → Nat) (v : Int32) : mE ad (initS v) 88 (tbC cA 88) = mE ad (initS v) 88 (tbX cA 88) := rfl
set_option maxRecDepth 100000 in
theorem sp_89 (cA ad : Nat → Nat) (v : Int32) : mE ad (initS v) 89 (tbC cA 89) = mE ad (initS v) 89 (tbX cA 89) := rfl
set_option maxRecDepth 100000 in
theorem sp_90 (cA ad : Nat → Nat) (v : Int32) : mE ad (initS v) 90 (tbC cA 90) = mE ad (initS v) 90 (tbX cA 90) := rfl
set_option maxRecDepth 100000 in
theorem sp_91 (cA ad : Nat → Nat) (v : Int32) : mE ad (initS v) 91 (tbC cA 91) = mE ad (initS v) 91 (tbX cA 91) := rfl
set_option maxRecDepth 100000 in
theorem sp_92 (cA ad : Nat → Nat) (v : Int32) : mE ad (initS v) 92 (tbC cA 92) = mE ad (initS v) 92 (tbX cA 92) := rfl
set_option maxRecDepth 100000 in
theorem sp_93 (cA ad : Nat → Nat) (v : Int32) : mE ad (initS v) 93 (tbC cA 93) = mE ad (initS v) 93 (tbX cA 93) := rfl
set_option maxRecDepth 100000 in
theorem sp_94 (cA ad : Nat → Nat) (v : Int32) : mE ad (initS v) 94 (tbC cA 94) = mE ad (initS v) 94 (tbX cA 94) := rfl
set_option maxRecDepth 100000 in
theorem sp_95 (cA ad : Nat → Nat) (v : Int32) : mE ad (initS v) 95 (tbC cA 95) = mE ad (initS v) 95 (tbX cA 95) := rfl
set_option maxRecDepth 100000 in
theorem sp_96 (cA ad : Nat → Nat) (v : Int32) : mE ad (initS v) 96 (tbC cA 96) = mE ad (initS v) 96 (tbX cA 96) := rfl
set_option maxRecDepth 100000 in
theorem sp_97 (cA ad : Nat → Nat) (v : Int32) : mE ad (initS v) 97 (tbC cA 97) = mE ad (initS v) 97 (tbX cA 97) := rfl
set_option maxRecDepth 100000 in
theorem sp_98 (cA ad : Nat → Nat) (v : Int32) : mE ad (initS v) 98 (tbC cA 98) = mE ad (initS v) 98 (tbX cA 98) := rfl
set_option maxRecDepth 100000 in
theorem sv_0 (ad : Nat → Nat) (v : Int32) : mV ad (initS v) 99 0 (0) = mV (fun k => ad (99 + k)) (shY (initS v)) 0 0 (0) := rfl
set_option maxRecDepth 100000 in
theorem sv_1 (ad : Nat → Nat) (v : Int32) : mV ad (initS v) 99 1 (0) = mV (fun k => ad (99 + k)) (shY (initS v)) 0 1 (0) := rfl
set_option maxRecDepth 100000 in
theorem sv_2 (ad : Nat → Nat) (v : Int32) : mV ad (initS v) 99 2 (0) = mV (fun k => ad (99 + k)) (shY (initS v)) 0 2 (0) := rfl
set_option maxRecDepth 100000 in
theorem sv_3 (ad : Nat → Nat) (v : Int32) : mV ad (initS v) 99 3 (2) = mV (fun k => ad (99 + k)) (shY (initS v)) 0 3 (1 + 3) := rfl
set_option maxRecDepth 100000 in
theorem sv_4 (ad : Nat → Nat) (v : Int32) : mV ad (initS v) 99 4 (2) = mV (fun k => ad (99 + k)) (shY (initS v)) 0 4 (2 + 3) := rfl
set_option maxRecDepth 100000 in
theorem sv_5 (ad : Nat → Nat) (v : Int32) : mV ad (initS v) 99 5 (2) = mV (fun k => ad (99 + k)) (shY (initS v)) 0 5 (3 + 3) := rfl
set_option maxRecDepth 100000 in
theorem sv_6 (ad : Nat → Nat) (v : Int32) : mV ad (initS v) 99 6 (2) = mV (fun k => ad (99 + k)) (shY (initS v)) 0 6 (4 + 3) := rfl
set_option maxRecDepth 100000 in
theorem sv_7 (ad : Nat → Nat) (v : Int32) : mV ad (initS v) 99 7 (2) = mV (fun k => ad (99 + k)) (shY (initS v)) 0 7 (5 + 3) := rfl
set_option maxRecDepth 100000 in
theorem sv_8 (ad : Nat → Nat) (v : Int32) : mV ad (initS v) 99 8 (2) = mV (fun k => ad (99 + k)) (shY (initS v)) 0 8 (6 + 3) := rfl
set_option maxRecDepth 100000 in
theorem sv_9 (ad : Nat → Nat) (v : Int32) : mV ad (initS v) 99 9 (2) = mV (fun k => ad (99 + k)) (shY (initS v)) 0 9 (7 + 3) := rfl
set_option maxRecDepth 100000 in
theorem sv_10 (ad : Nat → Nat) (v : Int32) : mV ad (initS v) 99 10 (2) = mV (fun k => ad (99 + k)) (shY (initS v)) 0 10 (8 + 3) := rfl
set_option maxRecDepth 100000 in
theorem sv_11 (ad : Nat → Nat) (v : Int32) : mV ad (initS v) 99 11 (2) = mV (fun k => ad (99 + k)) (shY (initS v)) 0 11 (9 + 3) := rfl
set_option maxRecDepth 100000 in
theorem sv_12 (ad : Nat → Nat) (v : Int32) : mV ad (initS v) 99 12 (2) = mV (fun k => ad (99 + k)) (shY (initS v)) 0 12 (10 + 3) := rfl
set_option maxRecDepth 100000 in
theorem sv_13 (ad : Nat → Nat) (v : Int32) : mV ad (initS v) 99 13 (2) = mV (fun k => ad (99 + k)) (shY (initS v)) 0 13 (11 + 3) := rfl
set_option maxRecDepth 100000 in
theorem sv_14 (ad : Nat → Nat) (v : Int32) : mV ad (initS v) 99 14 (2) = mV (fun k => ad (99 + k)) (shY (initS v)) 0 14 (12 + 3) := rfl
set_option maxRecDepth 100000 in
theorem sv_15 (ad : Nat → Nat) (v : Int32) : mV ad (initS v) 99 15 (2) = mV (fun k => ad (99 + k)) (shY (initS v)) 0 15 (13 + 3) := rfl
set_option maxRecDepth 100000 in
theorem sv_16 (ad : Nat → Nat) (v : Int32) : mV ad (initS v) 99 16 (2) = mV (fun k => ad (99 + k)) (shY (initS v)) 0 16 (14 + 3) := rfl
set_option maxRecDepth 100000 in
theorem sv_17 (ad : Nat → Nat) (v : Int32) : mV ad (initS v) 99 17 (2) = mV (fun k => ad (99 + k)) (shY (initS v)) 0 17 (15 + 3) := rfl
set_option maxRecDepth 100000 in
theorem sv_18 (ad : Nat → Nat) (v : Int32) : mV ad (initS v) 99 18 (2) = mV (fun k => ad (99 + k)) (shY (initS v)) 0 18 (16 + 3) := rfl
set_option maxRecDepth 100000 in
theorem sv_19 (ad : Nat → Nat) (v : Int32) : mV ad (initS v) 99 19 (0) = mV (fun k => ad (99 + k)) (shY (initS v)) 0 19 (0) := rfl
set_option maxRecDepth 100000 in
theorem sv_20 (ad : Nat → Nat) (v : Int32) : mV ad (initS v) 99 20 (0) = mV (fun k => ad (99 + k)) (shY (initS v)) 0 20 (0) := rfl
set_option maxRecDepth 100000 in
theorem sv_21 (ad : Nat → Nat) (v : Int32) : mV ad (initS v) 99 21 (0) = mV (fun k => ad (99 + k)) (shY (initS v)) 0 21 (0) := rfl
set_option maxRecDepth 100000 in
theorem sv_22 (ad : Nat → Nat) (v : Int32) : mV ad (initS v) 99 22 (0) = mV (fun k => ad (99 + k)) (shY (initS v)) 0 22 (0) := rfl
set_option maxRecDepth 100000 in
theorem sv_23 (ad : Nat → Nat) (v : Int32) : mV ad (initS v) 99 23 (0) = mV (fun k => ad (99 + k)) (shY (initS v)) 0 23 (0) := rfl
set_option maxRecDepth 100000 in
theorem sv_24 (ad : Nat → Nat) (v : Int32) : mV ad (initS v) 99 24 (2) = mV (fun k => ad (99 + k)) (shY (initS v)) 0 24 (17 + 3) := rfl
set_option maxRecDepth 100000 in
theorem sv_25 (ad : Nat → Nat) (v : Int32) : mV ad (initS v) 99 25 (2) = mV (fun k => ad (99 + k)) (shY (initS v)) 0 25 (18 + 3) := rfl
set_option maxRecDepth 100000 in
theorem sv_26 (ad : Nat → Nat) (v : Int32) : mV ad (initS v) 99 26 (2) = mV (fun k => ad (99 + k)) (shY (initS v)) 0 26 (19 + 3) := rfl
set_option maxRecDepth 100000 in
theorem sv_27 (ad : Nat → Nat) (v : Int32) : mV ad (initS v) 99 27 (2) = mV (fun k => ad (99 + k)) (shY (initS v)) 0 27 (20 + 3) := rfl
set_option maxRecDepth 100000 in
theorem sv_28 (ad : Nat → Nat) (v : Int32) : mV ad (initS v) 99 28 (2) = mV (fun k => ad (99 + k)) (shY (initS v)) 0 28 (21 + 3) := rfl
set_option maxRecDepth 100000 in
theorem sv_29 (ad : Nat → Nat) (v : Int32) : mV ad (initS v) 99 29 (0) = mV (fun k => ad (99 + k)) (shY (initS v)) 0 29 (0) := rfl
set_option maxRecDepth 100000 in
theorem sv_30 (ad : Nat → Nat) (v : Int32) : mV ad (initS v) 99 30 (0) = mV (fun k => ad (99 + k)) (shY (initS v)) 0 30 (0) := rfl
set_option maxRecDepth 100000 in
theorem sv_31 (ad : Nat → Nat) (v : Int32) : mV ad (initS v) 99 31 (2) = mV (fun k => ad (99 + k)) (shY (initS v)) 0 31 (22 + 3) := rfl
theorem sq_0 (cA ad : Nat → Nat) (v : Int32) : mE ad (initS v) 99 (tbC cA 99) = mE (fun k => ad (99 + k)) (shY (initS v)) 0 (tbY cA 0) := by
  have e : ([0, 0, 0, 2, 2, 2, 2, 2, 2, 2, 2, 2, 2, 2, 2, 2, 2, 2, 2, 0, 0, 0, 0, 0, 2, 2, 2, 2, 2, 0, 0, 2] : List Nat).mapIdx (fun j t => mV ad (initS v) 99 j t) = ([0, 0, 0, 1 + 3, 2 + 3, 3 + 3, 4 + 3, 5 + 3, 6 + 3, 7 + 3, 8 + 3, 9 + 3, 10 + 3, 11 + 3, 12 + 3, 13 + 3, 14 + 3, 15 + 3, 16 + 3, 0, 0, 0, 0, 0, 17 + 3, 18 + 3, 19 + 3, 20 + 3, 21 + 3, 0, 0, 22 + 3] : List Nat).mapIdx (fun j t => mV (fun k => ad (99 + k)) (shY (initS v)) 0 j t) := by
    apply List.ext_getElem?
    intro i
    rw [List.getElem?_mapIdx, List.getElem?_mapIdx]
    match i with
    | 0 => exact congrArg some (sv_0 ad v)
    | 1 => exact congrArg some (sv_1 ad v)
    | 2 => exact congrArg some (sv_2 ad v)
    | 3 => exact congrArg some (sv_3 ad v)
    | 4 => exact congrArg some (sv_4 ad v)
    | 5 => exact congrArg some (sv_5 ad v)
    | 6 => exact congrArg some (sv_6 ad v)
    | 7 => exact congrArg some (sv_7 ad v)
    | 8 => exact congrArg some (sv_8 ad v)
    | 9 => exact congrArg some (sv_9 ad v)
    | 10 => exact congrArg some (sv_10 ad v)
    | 11 => exact congrArg some (sv_11 ad v)
    | 12 => exact congrArg some (sv_12 ad v)
    | 13 => exact congrArg some (sv_13 ad v)
    | 14 => exact congrArg some (sv_14 ad v)
    | 15 => exact congrArg some (sv_15 ad v)
    | 16 => exact congrArg some (sv_16 ad v)
    | 17 => exact congrArg some (sv_17 ad v)
    | 18 => exact congrArg some (sv_18 ad v)
    | 19 => exact congrArg some (sv_19 ad v)
    | 20 => exact congrArg some (sv_20 ad v)
    | 21 => exact congrArg some (sv_21 ad v)
    | 22 => exact congrArg some (sv_22 ad v)
    | 23 => exact congrArg some (sv_23 ad v)
    | 24 => exact congrArg some (sv_24 ad v)
    | 25 => exact congrArg some (sv_25 ad v)
    | 26 => exact congrArg some (sv_26 ad v)
    | 27 => exact congrArg some (sv_27 ad v)
    | 28 => exact congrArg some (sv_28 ad v)
    | 29 => exact congrArg some (sv_29 ad v)
    | 30 => exact congrArg some (sv_30 ad v)
    | 31 => exact congrArg some (sv_31 ad v)
    | k + 32 => rfl
  show (Sum.inr (10, ([0, 0, 0, 2, 2, 2, 2, 2, 2, 2, 2, 2, 2, 2, 2, 2, 2, 2, 2, 0, 0, 0, 0, 0, 2, 2, 2, 2, 2, 0, 0, 2] : List Nat).mapIdx (fun j t => mV ad (initS v) 99 j t)) : va_E) = Sum.inr (10, ([0, 0, 0, 1 + 3, 2 + 3, 3 + 3, 4 + 3, 5 + 3, 6 + 3, 7 + 3, 8 + 3, 9 + 3, 10 + 3, 11 + 3, 12 + 3, 13 + 3, 14 + 3, 15 + 3, 16 + 3, 0, 0, 0, 0, 0, 17 + 3, 18 + 3, 19 + 3, 20 + 3, 21 + 3, 0, 0, 22 + 3] : List Nat).mapIdx (fun j t => mV (fun k => ad (99 + k)) (shY (initS v)) 0 j t))
  rw [e]
set_option maxRecDepth 100000 in
theorem sq_1 (cA ad : Nat → Nat) (v : Int32) : mE ad (initS v) 100 (tbC cA 100) = mE (fun k => ad (99 + k)) (shY (initS v)) 1 (tbY cA 1) := rfl
set_option maxRecDepth 100000 in
theorem sq_2 (cA ad : Nat → Nat) (v : Int32) : mE ad (initS v) 101 (tbC cA 101) = mE (fun k => ad (99 + k)) (shY (initS v)) 2 (tbY cA 2) := rfl
set_option maxRecDepth 100000 in
theorem sq_3 (cA ad : Nat → Nat) (v : Int32) : mE ad (initS v) 102 (tbC cA 102) = mE (fun k => ad (99 + k)) (shY (initS v)) 3 (tbY cA 3) := rfl
set_option maxRecDepth 100000 in
theorem sq_4 (cA ad : Nat → Nat) (v : Int32) : mE ad (initS v) 103 (tbC cA 103) = mE (fun k => ad (99 + k)) (shY (initS v)) 4 (tbY cA 4) := rfl
set_option maxRecDepth 100000 in
theorem sq_5 (cA ad : Nat → Nat) (v : Int32) : mE ad (initS v) 104 (tbC cA 104) = mE (fun k => ad (99 + k)) (shY (initS v)) 5 (tbY cA 5) := rfl
set_option maxRecDepth 100000 in
theorem sq_6 (cA ad : Nat → Nat) (v : Int32) : mE ad (initS v) 105 (tbC cA 105) = mE (fun k => ad (99 + k)) (shY (initS v)) 6 (tbY cA 6) := rfl
set_option maxRecDepth 100000 in
theorem sq_7 (cA ad : Nat → Nat) (v : Int32) : mE ad (initS v) 106 (tbC cA 106) = mE (fun k => ad (99 + k)) (shY (initS v)) 7 (tbY cA 7) := rfl
set_option maxRecDepth 100000 in
theorem sq_8 (cA ad : Nat → Nat) (v : Int32) : mE ad (initS v) 107 (tbC cA 107) = mE (fun k => ad (99 + k)) (shY (initS v)) 8 (tbY cA 8) := rfl
set_option maxRecDepth 100000 in
theorem sq_9 (cA ad : Nat → Nat) (v : Int32) : mE ad (initS v) 108 (tbC cA 108) = mE (fun k => ad (99 + k)) (shY (initS v)) 9 (tbY cA 9) := rfl
set_option maxRecDepth 100000 in
theorem sq_10 (cA ad : Nat → Nat) (v : Int32) : mE ad (initS v) 109 (tbC cA 109) = mE (fun k => ad (99 + k)) (shY (initS v)) 10 (tbY cA 10) := rfl
set_option maxRecDepth 100000 in
theorem sq_11 (cA ad : Nat → Nat) (v : Int32) : mE ad (initS v) 110 (tbC cA 110) = mE (fun k => ad (99 + k)) (shY (initS v)) 11 (tbY cA 11) := rfl
set_option maxRecDepth 100000 in
theorem sq_12 (cA ad : Nat → Nat) (v : Int32) : mE ad (initS v) 111 (tbC cA 111) = mE (fun k => ad (99 + k)) (shY (initS v)) 12 (tbY cA 12) := rfl
set_option maxRecDepth 100000 in
theorem sq_13 (cA ad : Nat → Nat) (v : Int32) : mE ad (initS v) 112 (tbC cA 112) = mE (fun k => ad (99 + k)) (shY (initS v)) 13 (tbY cA 13) := rfl
set_option maxRecDepth 100000 in
theorem sq_14 (cA ad : Nat → Nat) (v : Int32) : mE ad (initS v) 113 (tbC cA 113) = mE (fun k => ad (99 + k)) (shY (initS v)) 14 (tbY cA 14) := rfl
set_option maxRecDepth 100000 in
theorem sq_15 (cA ad : Nat → Nat) (v : Int32) : mE ad (initS v) 114 (tbC cA 114) = mE (fun k => ad (99 + k)) (shY (initS v)) 15 (tbY cA 15) := rfl
set_option maxRecDepth 100000 in
theorem sq_16 (cA ad : Nat → Nat) (v : Int32) : mE ad (initS v) 115 (tbC cA 115) = mE (fun k => ad (99 + k)) (shY (initS v)) 16 (tbY cA 16) := rfl
set_option maxRecDepth 100000 in
theorem sq_17 (cA ad : Nat → Nat) (v : Int32) : mE ad (initS v) 116 (tbC cA 116) = mE (fun k => ad (99 + k)) (shY (initS v)) 17 (tbY cA 17) := rfl
set_option maxRecDepth 100000 in
theorem sq_18 (cA ad : Nat → Nat) (v : Int32) : mE ad (initS v) 117 (tbC cA 117) = mE (fun k => ad (99 + k)) (shY (initS v)) 18 (tbY cA 18) := rfl
set_option maxRecDepth 100000 in
theorem sq_19 (cA ad : Nat → Nat) (v : Int32) : mE ad (initS v) 118 (tbC cA 118) = mE (fun k => ad (99 + k)) (shY (initS v)) 19 (tbY cA 19) := rfl
set_option maxRecDepth 100000 in
theorem sq_20 (cA ad : Nat → Nat) (v : Int32) : mE ad (initS v) 119 (tbC cA 119) = mE (fun k => ad (99 + k)) (shY (initS v)) 20 (tbY cA 20) := rfl
set_option maxRecDepth 100000 in
theorem sq_21 (cA ad : Nat → Nat) (v : Int32) : mE ad (initS v) 120 (tbC cA 120) = mE (fun k => ad (99 + k)) (shY (initS v)) 21 (tbY cA 21) := rfl
set_option maxRecDepth 100000 in
theorem sq_22 (cA ad : Nat → Nat) (v : Int32) : mE ad (initS v) 121 (tbC cA 121) = mE (fun k => ad (99 + k)) (shY (initS v)) 22 (tbY cA 22) := rfl
theorem sp_all (cA ad : Nat → Nat) (v : Int32) : ∀ k, k < 99 → mE ad (initS v) k (tbC cA k) = mE ad (initS v) k (tbX cA k) := by
  intro k hk
  match k, hk with
  | 0, _ => exact sp_0 cA ad v
  | 1, _ => exact sp_1 cA ad v
  | 2, _ => exact sp_2 cA ad v
  | 3, _ => exact sp_3 cA ad v
  | 4, _ => exact sp_4 cA ad v
  | 5, _ => exact sp_5 cA ad v
  | 6, _ => exact sp_6 cA ad v
  | 7, _ => exact sp_7 cA ad v
  | 8, _ => exact sp_8 cA ad v
  | 9, _ => exact sp_9 cA ad v
  | 10, _ => exact sp_10 cA ad v
  | 11, _ => exact sp_11 cA ad v
  | 12, _ => exact sp_12 cA ad v
  | 13, _ => exact sp_13 cA ad v
  | 14, _ => exact sp_14 cA ad v
  | 15, _ => exact sp_15 cA ad v
  | 16, _ => exact sp_16 cA ad v
  | 17, _ => exact sp_17 cA ad v
  | 18, _ => exact sp_18 cA ad v
  | 19, _ => exact sp_19 cA ad v
  | 20, _ => exact sp_20 cA ad v
  | 21, _ => exact sp_21 cA ad v
  | 22, _ => exact sp_22 cA ad v
  | 23, _ => exact sp_23 cA ad v
  | 24, _ => exact sp_24 cA ad v
  | 25, _ => exact sp_25 cA ad v
  | 26, _ => exact sp_26 cA ad v
  | 27, _ => exact sp_27 cA ad v
  | 28, _ => exact sp_28 cA ad v
  | 29, _ => exact sp_29 cA ad v
  | 30, _ => exact sp_30 cA ad v
  | 31, _ => exact sp_31 cA ad v
  | 32, _ => exact sp_32 cA ad v
  | 33, _ => exact sp_33 cA ad v
  | 34, _ => exact sp_34 cA ad v
  | 35, _ => exact sp_35 cA ad v
  | 36, _ => exact sp_36 cA ad v
  | 37, _ => exact sp_37 cA ad v
  | 38, _ => exact sp_38 cA ad v
  | 39, _ => exact sp_39 cA ad v
  | 40, _ => exact sp_40 cA ad v
  | 41, _ => exact sp_41 cA ad v
  | 42, _ => exact sp_42 cA ad v
  | 43, _ => exact sp_43 cA ad v
  | 44, _ => exact sp_44 cA ad v
  | 45, _ => exact sp_45 cA ad v
  | 46, _ => exact sp_46 cA ad v
  | 47, _ => exact sp_47 cA ad v
  | 48, _ => exact sp_48 cA ad v
  | 49, _ => exact sp_49 cA ad v
  | 50, _ => exact sp_50 cA ad v
  | 51, _ => exact sp_51 cA ad v
  | 52, _ => exact sp_52 cA ad v
  | 53, _ => exact sp_53 cA ad v
  | 54, _ => exact sp_54 cA ad v
  | 55, _ => exact sp_55 cA ad v
  | 56, _ => exact sp_56 cA ad v
  | 57, _ => exact sp_57 cA ad v
  | 58, _ => exact sp_58 cA ad v
  | 59, _ => exact sp_59 cA ad v
  | 60, _ => exact sp_60 cA ad v
  | 61, _ => exact sp_61 cA ad v
  | 62, _ => exact sp_62 cA ad v
  | 63, _ => exact sp_63 cA ad v
  | 64, _ => exact sp_64 cA ad v
  | 65, _ => exact sp_65 cA ad v
  | 66, _ => exact sp_66 cA ad v
  | 67, _ => exact sp_67 cA ad v
  | 68, _ => exact sp_68 cA ad v
  | 69, _ => exact sp_69 cA ad v
  | 70, _ => exact sp_70 cA ad v
  | 71, _ => exact sp_71 cA ad v
  | 72, _ => exact sp_72 cA ad v
  | 73, _ => exact sp_73 cA ad v
  | 74, _ => exact sp_74 cA ad v
  | 75, _ => exact sp_75 cA ad v
  | 76, _ => exact sp_76 cA ad v
  | 77, _ => exact sp_77 cA ad v
  | 78, _ => exact sp_78 cA ad v
  | 79, _ => exact sp_79 cA ad v
  | 80, _ => exact sp_80 cA ad v
  | 81, _ => exact sp_81 cA ad v
  | 82, _ => exact sp_82 cA ad v
  | 83, _ => exact sp_83 cA ad v
  | 84, _ => exact sp_84 cA ad v
  | 85, _ => exact sp_85 cA ad v
  | 86, _ => exact sp_86 cA ad v
  | 87, _ => exact sp_87 cA ad v
  | 88, _ => exact sp_88 cA ad v
  | 89, _ => exact sp_89 cA ad v
  | 90, _ => exact sp_90 cA ad v
  | 91, _ => exact sp_91 cA ad v
  | 92, _ => exact sp_92 cA ad v
  | 93, _ => exact sp_93 cA ad v
  | 94, _ => exact sp_94 cA ad v
  | 95, _ => exact sp_95 cA ad v
  | 96, _ => exact sp_96 cA ad v
  | 97, _ => exact sp_97 cA ad v
  | 98, _ => exact sp_98 cA ad v
  | k + 99, h => omega
theorem sq_all (cA ad : Nat → Nat) (v : Int32) : ∀ k, k < 23 → mE ad (initS v) (99 + k) (tbC cA (99 + k)) = mE (fun k => ad (99 + k)) (shY (initS v)) k (tbY cA k) := by
  intro k hk
  match k, hk with
  | 0, _ => exact sq_0 cA ad v
  | 1, _ => exact sq_1 cA ad v
  | 2, _ => exact sq_2 cA ad v
  | 3, _ => exact sq_3 cA ad v
  | 4, _ => exact sq_4 cA ad v
  | 5, _ => exact sq_5 cA ad v
  | 6, _ => exact sq_6 cA ad v
  | 7, _ => exact sq_7 cA ad v
  | 8, _ => exact sq_8 cA ad v
  | 9, _ => exact sq_9 cA ad v
  | 10, _ => exact sq_10 cA ad v
  | 11, _ => exact sq_11 cA ad v
  | 12, _ => exact sq_12 cA ad v
  | 13, _ => exact sq_13 cA ad v
  | 14, _ => exact sq_14 cA ad v
  | 15, _ => exact sq_15 cA ad v
  | 16, _ => exact sq_16 cA ad v
  | 17, _ => exact sq_17 cA ad v
  | 18, _ => exact sq_18 cA ad v
  | 19, _ => exact sq_19 cA ad v
  | 20, _ => exact sq_20 cA ad v
  | 21, _ => exact sq_21 cA ad v
  | 22, _ => exact sq_22 cA ad v
  | k + 23, h => omega
theorem wd_split (cA ad : Nat → Nat) (v : Int32) : wd 122 (tbC cA) ad (initS v) = wd 99 (tbX cA) ad (initS v) ++ wd 23 (tbY cA) (fun k => ad (99 + k)) (shY (initS v)) := by
  apply List.ext_getElem?
  intro i
  by_cases h1 : i < 99
  · rw [List.getElem?_append_left (by simp [wd]; exact h1), wd_get (by omega) rfl, wd_get h1 rfl, sp_all cA ad v i h1]
  · have hl : (wd 99 (tbX cA) ad (initS v)).length = 99 := by simp [wd]
    rw [List.getElem?_append_right (by omega), hl]
    by_cases h2 : i < 122
    · obtain ⟨j, rfl⟩ : ∃ j, i = 99 + j := ⟨i - 99, by omega⟩
      rw [Nat.add_sub_cancel_left, wd_get h2 rfl, wd_get (by omega) rfl, sq_all cA ad v j (by omega)]
    · have e1 : (wd 122 (tbC cA) ad (initS v))[i]? = none := List.getElem?_eq_none (by simp [wd]; omega)
      have e2 : (wd 23 (tbY cA) (fun k => ad (99 + k)) (shY (initS v)))[i - 99]? = none := List.getElem?_eq_none (by simp [wd]; omega)
      rw [e1, e2]
