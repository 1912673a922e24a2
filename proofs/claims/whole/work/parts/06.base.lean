/-! constants -/
theorem ic_m1 : Int32.ofInt (-1) = (-1) := by decide
theorem ic_0 : Int32.ofInt 0 = 0 := by decide
theorem ic_1 : Int32.ofInt 1 = 1 := by decide
theorem ic_2 : Int32.ofInt 2 = 2 := by decide
theorem ic_3 : Int32.ofInt 3 = 3 := by decide
theorem ic_4 : Int32.ofInt 4 = 4 := by decide
theorem ic_5 : Int32.ofInt 5 = 5 := by decide
theorem bp_m2 : (Int8.ofInt (-2)).toInt32 = (-2) := by decide
theorem bp_6 : (Int8.ofInt 6).toInt32 = 6 := by decide
theorem bp_8 : (Int8.ofInt 8).toInt32 = 8 := by decide
theorem bp_10 : (Int8.ofInt 10).toInt32 = 10 := by decide
theorem bp_12 : (Int8.ofInt 12).toInt32 = 12 := by decide
theorem bp_m4 : (Int8.ofInt (-4)).toInt32 = (-4) := by decide
theorem bp_m3 : (Int8.ofInt (-3)).toInt32 = (-3) := by decide
theorem bp_36 : (Int8.ofInt 36).toInt32 = 36 := by decide
theorem bp_17 : (Int8.ofInt 17).toInt32 = 17 := by decide
theorem bp_60 : (Int8.ofInt 60).toInt32 = 60 := by decide
theorem bp_26 : (Int8.ofInt 26).toInt32 = 26 := by decide
theorem bp_m10 : (Int8.ofInt (-10)).toInt32 = (-10) := by decide
theorem bp_9 : (Int8.ofInt 9).toInt32 = 9 := by decide
theorem bp_48 : (Int8.ofInt 48).toInt32 = 48 := by decide
theorem bp_99 : (Int8.ofInt 99).toInt32 = 99 := by decide
theorem bp_32 : (Int8.ofInt 32).toInt32 = 32 := by decide
theorem bp_11 : (Int8.ofInt 11).toInt32 = 11 := by decide
theorem bp_61 : (Int8.ofInt 61).toInt32 = 61 := by decide
theorem bp_24 : (Int8.ofInt 24).toInt32 = 24 := by decide
theorem bp_97 : (Int8.ofInt 97).toInt32 = 97 := by decide
theorem bp_122 : (Int8.ofInt 122).toInt32 = 122 := by decide
theorem bp_57 : (Int8.ofInt 57).toInt32 = 57 := by decide
theorem bp_87 : (Int8.ofInt 87).toInt32 = 87 := by decide
theorem bp_64 : (Int8.ofInt 64).toInt32 = 64 := by decide
theorem bp_59 : (Int8.ofInt 59).toInt32 = 59 := by decide
theorem bp_m5 : (Int8.ofInt (-5)).toInt32 = (-5) := by decide
theorem bp_m20 : (Int8.ofInt (-20)).toInt32 = (-20) := by decide
theorem bp_63 : (Int8.ofInt 63).toInt32 = 63 := by decide
theorem bp_96 : (Int8.ofInt 96).toInt32 = 96 := by decide
theorem bp_31 : (Int8.ofInt 31).toInt32 = 31 := by decide
theorem bp_27 : (Int8.ofInt 27).toInt32 = 27 := by decide
theorem bp_20 : (Int8.ofInt 20).toInt32 = 20 := by decide
theorem bp_7 : (Int8.ofInt 7).toInt32 = 7 := by decide
theorem sp_250 : (Int16.ofInt 250).toInt32 = 250 := by decide
theorem sp_453 : (Int16.ofInt 453).toInt32 = 453 := by decide
theorem sp_1359 : (Int16.ofInt 1359).toInt32 = 1359 := by decide
theorem sp_999 : (Int16.ofInt 999).toInt32 = 999 := by decide
theorem sp_255 : (Int16.ofInt 255).toInt32 = 255 := by decide
theorem sp_1812 : (Int16.ofInt 1812).toInt32 = 1812 := by decide
theorem sp_305 : (Int16.ofInt 305).toInt32 = 305 := by decide
theorem sp_148 : (Int16.ofInt 148).toInt32 = 148 := by decide
theorem ii_1 (x : Int32) : x + Int32.ofInt 1 = x + 1 := by rw [show Int32.ofInt 1 = 1 by decide]
theorem ii_m1 (x : Int32) : x + Int32.ofInt (-1) = x + (-1) := by rw [show Int32.ofInt (-1) = (-1) by decide]
theorem ii_6 (x : Int32) : x + Int32.ofInt 6 = x + 6 := by rw [show Int32.ofInt 6 = 6 by decide]
theorem i0 : (0 : Int32) = nI 0 := rfl
theorem i1 : (1 : Int32) = nI 1 := rfl
theorem i2 : (2 : Int32) = nI 2 := rfl
theorem i3 : (3 : Int32) = nI 3 := rfl
theorem i4 : (4 : Int32) = nI 4 := rfl
theorem i5 : (5 : Int32) = nI 5 := rfl
theorem i6 : (6 : Int32) = nI 6 := rfl
theorem i7 : (7 : Int32) = nI 7 := rfl
theorem i8 : (8 : Int32) = nI 8 := rfl
theorem i9 : (9 : Int32) = nI 9 := rfl
theorem i10 : (10 : Int32) = nI 10 := rfl
theorem i11 : (11 : Int32) = nI 11 := rfl
theorem i12 : (12 : Int32) = nI 12 := rfl
theorem i17 : (17 : Int32) = nI 17 := rfl
theorem i20 : (20 : Int32) = nI 20 := rfl
theorem i24 : (24 : Int32) = nI 24 := rfl
theorem i26 : (26 : Int32) = nI 26 := rfl
theorem i27 : (27 : Int32) = nI 27 := rfl
theorem i31 : (31 : Int32) = nI 31 := rfl
theorem i32 : (32 : Int32) = nI 32 := rfl
theorem i36 : (36 : Int32) = nI 36 := rfl
theorem i48 : (48 : Int32) = nI 48 := rfl
theorem i57 : (57 : Int32) = nI 57 := rfl
theorem i59 : (59 : Int32) = nI 59 := rfl
theorem i60 : (60 : Int32) = nI 60 := rfl
theorem i61 : (61 : Int32) = nI 61 := rfl
theorem i63 : (63 : Int32) = nI 63 := rfl
theorem i64 : (64 : Int32) = nI 64 := rfl
theorem i87 : (87 : Int32) = nI 87 := rfl
theorem i96 : (96 : Int32) = nI 96 := rfl
theorem i97 : (97 : Int32) = nI 97 := rfl
theorem i99 : (99 : Int32) = nI 99 := rfl
theorem i122 : (122 : Int32) = nI 122 := rfl
theorem i148 : (148 : Int32) = nI 148 := rfl
theorem i250 : (250 : Int32) = nI 250 := rfl
theorem i255 : (255 : Int32) = nI 255 := rfl
theorem i305 : (305 : Int32) = nI 305 := rfl
theorem i453 : (453 : Int32) = nI 453 := rfl
theorem i999 : (999 : Int32) = nI 999 := rfl
theorem i1359 : (1359 : Int32) = nI 1359 := rfl
theorem i1812 : (1812 : Int32) = nI 1812 := rfl
theorem i999999 : (999999 : Int32) = nI 999999 := rfl
theorem i1000000 : (1000000 : Int32) = nI 1000000 := rfl
/-! truth as an int -/
def bi (p : Prop) [Decidable p] : Int32 := if p then 1 else 0
theorem bi_t {p : Prop} [Decidable p] (h : p) : bi p = 1 := if_pos h
theorem bi_f {p : Prop} [Decidable p] (h : ¬ p) : bi p = 0 := if_neg h
theorem bi_0 {p : Prop} [Decidable p] : bi p = 0 ↔ ¬ p := by
  unfold bi
  by_cases h : p
  · rw [if_pos h]; exact ⟨fun z => absurd z (by decide), fun z => absurd h z⟩
  · rw [if_neg h]; exact ⟨fun _ => h, fun _ => rfl⟩
theorem nb_bi {p : Prop} [Decidable p] : narrow .boolean (.int (bi p)) = .int (bi p) := by
  unfold bi
  by_cases h : p
  · rw [if_pos h]; rfl
  · rw [if_neg h]; rfl
theorem bi_congr {p q : Prop} [Decidable p] [Decidable q] (h : p ↔ q) : bi p = bi q := by
  unfold bi
  by_cases hp : p
  · rw [if_pos hp, if_pos (h.mp hp)]
  · rw [if_neg hp, if_neg (fun z => hp (h.mpr z))]
section BIR
variable {X : CX} {Γ : Gm} {P : PO} {k n pc q : Nat} {L : List (Option Value)} {st : List Value} {σ : Sg} {sz : Nat} {own nm : String} {cc : ByteArray} {nL : Nat} {ret : Option FieldType} {R0 : Room}
theorem S_if_eq_b {p : Prop} [Decidable p] {off : Int} (tg : Nat) (hX : Ok X Γ (own, nm, cc, nL, ret, R0)) (hd : decode cc pc = .ok (.ifCond .eq off, 3)) (ht : (pc : Int) + off = (tg : Int)) (hq : pc + 3 = q) (k1 : ¬ p → G X Γ P k n tg L st σ sz) (k2 : p → G X Γ P k n q L st σ sz) : G X Γ P k n pc L (.int (bi p) :: st) σ sz :=
  S_if_eq tg hX hd ht hq (fun z => k1 (bi_0.mp z)) (fun z => k2 (Classical.not_not.mp fun w => z (bi_0.mpr w)))
theorem S_if_ne_b {p : Prop} [Decidable p] {off : Int} (tg : Nat) (hX : Ok X Γ (own, nm, cc, nL, ret, R0)) (hd : decode cc pc = .ok (.ifCond .ne off, 3)) (ht : (pc : Int) + off = (tg : Int)) (hq : pc + 3 = q) (k1 : p → G X Γ P k n tg L st σ sz) (k2 : ¬ p → G X Γ P k n q L st σ sz) : G X Γ P k n pc L (.int (bi p) :: st) σ sz :=
  S_if_ne tg hX hd ht hq (fun z => k1 (Classical.not_not.mp fun w => z (bi_0.mpr w))) (fun z => k2 (bi_0.mp z))
theorem S_top {x y : Int32} (h : x = y) (kk : G X Γ P k n pc L (.int y :: st) σ sz) : G X Γ P k n pc L (.int x :: st) σ sz := h ▸ kk
theorem S_topl {x y : Int64} (h : x = y) (kk : G X Γ P k n pc L (.long y :: st) σ sz) : G X Γ P k n pc L (.long x :: st) σ sz := h ▸ kk
theorem S_L {L' : List (Option Value)} (h : L = L') (kk : G X Γ P k n pc L' st σ sz) : G X Γ P k n pc L st σ sz := h ▸ kk
theorem S_σ {σ' : Sg} (h : σ = σ') (kk : G X Γ P k n pc L st σ' sz) : G X Γ P k n pc L st σ sz := h ▸ kk
end BIR
theorem su_su (σ : Sg) (a : Nat) (e e' : AE) : su (su σ a e) a e' = su σ a e' := by
  funext q
  unfold su
  by_cases h : q = a
  · rw [if_pos h, if_pos h]
  · rw [if_neg h, if_neg h, if_neg h]
theorem su_id {σ : Sg} {a : Nat} {e : AE} (h : σ a = some e) : su σ a e = σ := by
  funext q
  unfold su
  by_cases hq : q = a
  · rw [if_pos hq, hq, h]
  · rw [if_neg hq]
theorem su_cm {σ : Sg} {a b : Nat} {e e' : AE} (h : a ≠ b) : su (su σ a e) b e' = su (su σ b e') a e := by
  funext q
  unfold su
  by_cases h1 : q = a
  · have h2 : ¬ q = b := fun z => h (h1.symm.trans z)
    rw [if_neg h2, if_pos h1, if_pos h1]
  · by_cases h2 : q = b
    · rw [if_pos h2, if_neg h1, if_pos h2]
    · rw [if_neg h2, if_neg h1, if_neg h1, if_neg h2]
theorem CT.mkP {y : MethodName} {cc : ByteArray} {nL : Nat} {ret : Option FieldType} {rm : Room} {av : List Value} {Pr : Gm → Sg → Nat → Prop} {Po : Gm → Sg → Nat → PO} (hp : plainName y.cls = true) (hn : (lg_sl av).length ≤ nL) (L0 : List (Option Value)) (hL : eL av ++ List.replicate (nL - (eL av).length) none = L0)
    (h : ∀ (X : CX) (Γ : Gm) (σ : Sg) (sz : Nat) (P : PO), Ok X Γ (y.cls, y.name, cc, nL, ret, rm) → Pr Γ σ sz → ow Γ sz → (∀ v σ' sz', Po Γ σ sz v σ' sz' → P v σ' sz') → G X Γ P 0 0 0 L0 [] σ sz) : CT y cc nL ret rm av Pr Po :=
  CT.mk hp hn L0 hL fun X Γ σ sz h1 h2 h3 => h X Γ σ sz _ h1 h2 h3 fun _ _ _ z => z
/-! fields -/
def isF (ci : Nat) : Prop := ci = 0 ∨ ci = 1 ∨ ci = 3 ∨ ci = 4 ∨ ci = 5
theorem fo_X2_codes : fok 2 0 "FanTalk$Codes" "codes" "I" false .int := ⟨RX2, TX2, 5, tyX2, rfl, by decide, rfl, uw_X2, tyX2_ok, nmX2, rfl⟩
theorem fo_X2_entries : fok 2 1 "FanTalk$Codes" "entries" "[I" true (.array .int) := ⟨RX2, TX2, 5, tyX2, rfl, by decide, rfl, uw_X2, tyX2_ok, nmX2, rfl⟩
theorem fo_X2_rows : fok 2 2 "FanTalk$Codes" "rows" "[I" true (.array .int) := ⟨RX2, TX2, 5, tyX2, rfl, by decide, rfl, uw_X2, tyX2_ok, nmX2, rfl⟩
theorem fo_X2_words : fok 2 3 "FanTalk$Codes" "words" "[I" true (.array .int) := ⟨RX2, TX2, 5, tyX2, rfl, by decide, rfl, uw_X2, tyX2_ok, nmX2, rfl⟩
theorem fo_X2_uses : fok 2 4 "FanTalk$Codes" "uses" "[I" true (.array .int) := ⟨RX2, TX2, 5, tyX2, rfl, by decide, rfl, uw_X2, tyX2_ok, nmX2, rfl⟩
theorem fo_X6_before : fok 6 0 "FanTalk$Past" "before" "[LFanTalk$Codes;" true (.array (.object "FanTalk$Codes")) := ⟨RX6, TX6, 2, tyX6, rfl, by decide, rfl, uw_X6, tyX6_ok, nmX6, rfl⟩
theorem fo_X6_kept : fok 6 1 "FanTalk$Past" "kept" "I" false .int := ⟨RX6, TX6, 2, tyX6, rfl, by decide, rfl, uw_X6, tyX6_ok, nmX6, rfl⟩
theorem fo_X8_text : fok 8 0 "FanTalk$Script" "text" "[I" true (.array .int) := ⟨RX8, TX8, 9, tyX8, rfl, by decide, rfl, uw_X8, tyX8_ok, nmX8, rfl⟩
theorem fo_X8_length : fok 8 1 "FanTalk$Script" "length" "I" false .int := ⟨RX8, TX8, 9, tyX8, rfl, by decide, rfl, uw_X8, tyX8_ok, nmX8, rfl⟩
theorem fo_X8_fresh : fok 8 2 "FanTalk$Script" "fresh" "LFanTalk$Codes;" true (.object "FanTalk$Codes") := ⟨RX8, TX8, 9, tyX8, rfl, by decide, rfl, uw_X8, tyX8_ok, nmX8, rfl⟩
theorem fo_X8_draughts : fok 8 3 "FanTalk$Script" "draughts" "I" false .int := ⟨RX8, TX8, 9, tyX8, rfl, by decide, rfl, uw_X8, tyX8_ok, nmX8, rfl⟩
theorem fo_X8_items : fok 8 4 "FanTalk$Script" "items" "I" false .int := ⟨RX8, TX8, 9, tyX8, rfl, by decide, rfl, uw_X8, tyX8_ok, nmX8, rfl⟩
theorem fo_X8_token : fok 8 5 "FanTalk$Script" "token" "I" false .int := ⟨RX8, TX8, 9, tyX8, rfl, by decide, rfl, uw_X8, tyX8_ok, nmX8, rfl⟩
theorem fo_X8_start : fok 8 6 "FanTalk$Script" "start" "I" false .int := ⟨RX8, TX8, 9, tyX8, rfl, by decide, rfl, uw_X8, tyX8_ok, nmX8, rfl⟩
theorem fo_X8_end : fok 8 7 "FanTalk$Script" "end" "I" false .int := ⟨RX8, TX8, 9, tyX8, rfl, by decide, rfl, uw_X8, tyX8_ok, nmX8, rfl⟩
theorem fo_X8_value : fok 8 8 "FanTalk$Script" "value" "I" false .int := ⟨RX8, TX8, 9, tyX8, rfl, by decide, rfl, uw_X8, tyX8_ok, nmX8, rfl⟩
theorem fo_X9_codes : fok 9 0 "FanTalk$Talk" "codes" "LFanTalk$Codes;" true (.object "FanTalk$Codes") := ⟨RX9, TX9, 10, tyX9, rfl, by decide, rfl, uw_X9, tyX9_ok, nmX9, rfl⟩
theorem fo_X9_past : fok 9 1 "FanTalk$Talk" "past" "LFanTalk$Past;" true (.object "FanTalk$Past") := ⟨RX9, TX9, 10, tyX9, rfl, by decide, rfl, uw_X9, tyX9_ok, nmX9, rfl⟩
theorem fo_X9_draughts : fok 9 2 "FanTalk$Talk" "draughts" "I" false .int := ⟨RX9, TX9, 10, tyX9, rfl, by decide, rfl, uw_X9, tyX9_ok, nmX9, rfl⟩
theorem fo_X9_saying : fok 9 3 "FanTalk$Talk" "saying" "[I" true (.array .int) := ⟨RX9, TX9, 10, tyX9, rfl, by decide, rfl, uw_X9, tyX9_ok, nmX9, rfl⟩
theorem fo_X9_beats : fok 9 4 "FanTalk$Talk" "beats" "I" false .int := ⟨RX9, TX9, 10, tyX9, rfl, by decide, rfl, uw_X9, tyX9_ok, nmX9, rfl⟩
theorem fo_X9_want : fok 9 5 "FanTalk$Talk" "want" "[I" true (.array .int) := ⟨RX9, TX9, 10, tyX9, rfl, by decide, rfl, uw_X9, tyX9_ok, nmX9, rfl⟩
theorem fo_X9_wants : fok 9 6 "FanTalk$Talk" "wants" "I" false .int := ⟨RX9, TX9, 10, tyX9, rfl, by decide, rfl, uw_X9, tyX9_ok, nmX9, rfl⟩
theorem fo_X9_factRows : fok 9 7 "FanTalk$Talk" "factRows" "[I" true (.array .int) := ⟨RX9, TX9, 10, tyX9, rfl, by decide, rfl, uw_X9, tyX9_ok, nmX9, rfl⟩
theorem fo_X9_factWords : fok 9 8 "FanTalk$Talk" "factWords" "[I" true (.array .int) := ⟨RX9, TX9, 10, tyX9, rfl, by decide, rfl, uw_X9, tyX9_ok, nmX9, rfl⟩
theorem fo_X9_facts : fok 9 9 "FanTalk$Talk" "facts" "I" false .int := ⟨RX9, TX9, 10, tyX9, rfl, by decide, rfl, uw_X9, tyX9_ok, nmX9, rfl⟩
theorem fo_X10_states : fok 10 0 "FanTalk$Walk" "states" "[I" true (.array .int) := ⟨RX10, TX10, 2, tyX10, rfl, by decide, rfl, uw_X10, tyX10_ok, nmX10, rfl⟩
theorem fo_X10_beats : fok 10 1 "FanTalk$Walk" "beats" "I" false .int := ⟨RX10, TX10, 2, tyX10, rfl, by decide, rfl, uw_X10, tyX10_ok, nmX10, rfl⟩
theorem fo_X11_now : fok 11 0 "FanTalk" "now" "LFanTalk$Talk;" true (.object "FanTalk$Talk") := ⟨RX11, TX11, 11, tyX11, rfl, by decide, rfl, uw_X11, tyX11_ok, nmX11, rfl⟩
theorem fo_X11_images : fok 11 1 "FanTalk" "images" "[LFanTalk$Talk;" true (.array (.object "FanTalk$Talk")) := ⟨RX11, TX11, 11, tyX11, rfl, by decide, rfl, uw_X11, tyX11_ok, nmX11, rfl⟩
theorem fo_X11_kept : fok 11 2 "FanTalk" "kept" "[Z" true (.array .boolean) := ⟨RX11, TX11, 11, tyX11, rfl, by decide, rfl, uw_X11, tyX11_ok, nmX11, rfl⟩
theorem fo_X11_script : fok 11 3 "FanTalk" "script" "LFanTalk$Script;" true (.object "FanTalk$Script") := ⟨RX11, TX11, 11, tyX11, rfl, by decide, rfl, uw_X11, tyX11_ok, nmX11, rfl⟩
theorem fo_X11_refusals : fok 11 4 "FanTalk" "refusals" "[I" true (.array .int) := ⟨RX11, TX11, 11, tyX11, rfl, by decide, rfl, uw_X11, tyX11_ok, nmX11, rfl⟩
theorem fo_X11_readers : fok 11 5 "FanTalk" "readers" "[LFanTalk$Friend;" true (.array (.object "FanTalk$Friend")) := ⟨RX11, TX11, 11, tyX11, rfl, by decide, rfl, uw_X11, tyX11_ok, nmX11, rfl⟩
theorem fo_X11_walk : fok 11 6 "FanTalk" "walk" "LFanTalk$Walk;" true (.object "FanTalk$Walk") := ⟨RX11, TX11, 11, tyX11, rfl, by decide, rfl, uw_X11, tyX11_ok, nmX11, rfl⟩
theorem fo_X11_drawn : fok 11 7 "FanTalk" "drawn" "[I" true (.array .int) := ⟨RX11, TX11, 11, tyX11, rfl, by decide, rfl, uw_X11, tyX11_ok, nmX11, rfl⟩
theorem fo_X11_first : fok 11 8 "FanTalk" "first" "[I" true (.array .int) := ⟨RX11, TX11, 11, tyX11, rfl, by decide, rfl, uw_X11, tyX11_ok, nmX11, rfl⟩
theorem fo_X11_spelt : fok 11 9 "FanTalk" "spelt" "[I" true (.array .int) := ⟨RX11, TX11, 11, tyX11, rfl, by decide, rfl, uw_X11, tyX11_ok, nmX11, rfl⟩
theorem fo_X11_air : fok 11 10 "FanTalk" "air" "[I" true (.array .int) := ⟨RX11, TX11, 11, tyX11, rfl, by decide, rfl, uw_X11, tyX11_ok, nmX11, rfl⟩
theorem fo_X12_now : fok 12 0 "FanTalkModel" "now" "[I" true (.array .int) := ⟨RX12, TX12, 17, tyX12, rfl, by decide, rfl, uw_X12, tyX12_ok, nmX12, rfl⟩
theorem fo_X12_base : fok 12 1 "FanTalkModel" "base" "I" false .int := ⟨RX12, TX12, 17, tyX12, rfl, by decide, rfl, uw_X12, tyX12_ok, nmX12, rfl⟩
theorem fo_X12_isKept : fok 12 2 "FanTalkModel" "isKept" "[Z" true (.array .boolean) := ⟨RX12, TX12, 17, tyX12, rfl, by decide, rfl, uw_X12, tyX12_ok, nmX12, rfl⟩
theorem fo_X12_refused : fok 12 3 "FanTalkModel" "refused" "[I" true (.array .int) := ⟨RX12, TX12, 17, tyX12, rfl, by decide, rfl, uw_X12, tyX12_ok, nmX12, rfl⟩
theorem fo_X12_text : fok 12 4 "FanTalkModel" "text" "[B" true (.array .byte) := ⟨RX12, TX12, 17, tyX12, rfl, by decide, rfl, uw_X12, tyX12_ok, nmX12, rfl⟩
theorem fo_X12_typed : fok 12 5 "FanTalkModel" "typed" "I" false .int := ⟨RX12, TX12, 17, tyX12, rfl, by decide, rfl, uw_X12, tyX12_ok, nmX12, rfl⟩
theorem fo_X12_at : fok 12 6 "FanTalkModel" "at" "I" false .int := ⟨RX12, TX12, 17, tyX12, rfl, by decide, rfl, uw_X12, tyX12_ok, nmX12, rfl⟩
theorem fo_X12_start : fok 12 7 "FanTalkModel" "start" "I" false .int := ⟨RX12, TX12, 17, tyX12, rfl, by decide, rfl, uw_X12, tyX12_ok, nmX12, rfl⟩
theorem fo_X12_sort : fok 12 8 "FanTalkModel" "sort" "I" false .int := ⟨RX12, TX12, 17, tyX12, rfl, by decide, rfl, uw_X12, tyX12_ok, nmX12, rfl⟩
theorem fo_X12_value : fok 12 9 "FanTalkModel" "value" "I" false .int := ⟨RX12, TX12, 17, tyX12, rfl, by decide, rfl, uw_X12, tyX12_ok, nmX12, rfl⟩
theorem fo_X12_fault : fok 12 10 "FanTalkModel" "fault" "I" false .int := ⟨RX12, TX12, 17, tyX12, rfl, by decide, rfl, uw_X12, tyX12_ok, nmX12, rfl⟩
theorem fo_X12_made : fok 12 11 "FanTalkModel" "made" "[I" true (.array .int) := ⟨RX12, TX12, 17, tyX12, rfl, by decide, rfl, uw_X12, tyX12_ok, nmX12, rfl⟩
theorem fo_X12_beats : fok 12 12 "FanTalkModel" "beats" "I" false .int := ⟨RX12, TX12, 17, tyX12, rfl, by decide, rfl, uw_X12, tyX12_ok, nmX12, rfl⟩
theorem fo_X12_view : fok 12 13 "FanTalkModel" "view" "[I" true (.array .int) := ⟨RX12, TX12, 17, tyX12, rfl, by decide, rfl, uw_X12, tyX12_ok, nmX12, rfl⟩
theorem fo_X12_words : fok 12 14 "FanTalkModel" "words" "[I" true (.array .int) := ⟨RX12, TX12, 17, tyX12, rfl, by decide, rfl, uw_X12, tyX12_ok, nmX12, rfl⟩
theorem fo_X12_wordMany : fok 12 15 "FanTalkModel" "wordMany" "I" false .int := ⟨RX12, TX12, 17, tyX12, rfl, by decide, rfl, uw_X12, tyX12_ok, nmX12, rfl⟩
theorem fo_X12_first : fok 12 16 "FanTalkModel" "first" "[I" true (.array .int) := ⟨RX12, TX12, 17, tyX12, rfl, by decide, rfl, uw_X12, tyX12_ok, nmX12, rfl⟩
theorem fo_F_words {ci : Nat} (h : isF ci) : fok ci 0 "FanTalk$Friend" "words" "[I" true (.array .int) := by
  rcases h with rfl | rfl | rfl | rfl | rfl
  · exact ⟨RX0, TX0, 9, tyX0, rfl, by decide, rfl, uw_X0, tyX0_ok, nmX0, rfl⟩
  · exact ⟨RX1, TX1, 9, tyX1, rfl, by decide, rfl, uw_X1, tyX1_ok, nmX1, rfl⟩
  · exact ⟨RX3, TX3, 9, tyX3, rfl, by decide, rfl, uw_X3, tyX3_ok, nmX3, rfl⟩
  · exact ⟨RX4, TX4, 9, tyX4, rfl, by decide, rfl, uw_X4, tyX4_ok, nmX4, rfl⟩
  · exact ⟨RX5, TX5, 9, tyX5, rfl, by decide, rfl, uw_X5, tyX5_ok, nmX5, rfl⟩
theorem fo_F_lookedFor {ci : Nat} (h : isF ci) : fok ci 1 "FanTalk$Friend" "lookedFor" "[I" true (.array .int) := by
  rcases h with rfl | rfl | rfl | rfl | rfl
  · exact ⟨RX0, TX0, 9, tyX0, rfl, by decide, rfl, uw_X0, tyX0_ok, nmX0, rfl⟩
  · exact ⟨RX1, TX1, 9, tyX1, rfl, by decide, rfl, uw_X1, tyX1_ok, nmX1, rfl⟩
  · exact ⟨RX3, TX3, 9, tyX3, rfl, by decide, rfl, uw_X3, tyX3_ok, nmX3, rfl⟩
  · exact ⟨RX4, TX4, 9, tyX4, rfl, by decide, rfl, uw_X4, tyX4_ok, nmX4, rfl⟩
  · exact ⟨RX5, TX5, 9, tyX5, rfl, by decide, rfl, uw_X5, tyX5_ok, nmX5, rfl⟩
theorem fo_F_looked {ci : Nat} (h : isF ci) : fok ci 2 "FanTalk$Friend" "looked" "I" false .int := by
  rcases h with rfl | rfl | rfl | rfl | rfl
  · exact ⟨RX0, TX0, 9, tyX0, rfl, by decide, rfl, uw_X0, tyX0_ok, nmX0, rfl⟩
  · exact ⟨RX1, TX1, 9, tyX1, rfl, by decide, rfl, uw_X1, tyX1_ok, nmX1, rfl⟩
  · exact ⟨RX3, TX3, 9, tyX3, rfl, by decide, rfl, uw_X3, tyX3_ok, nmX3, rfl⟩
  · exact ⟨RX4, TX4, 9, tyX4, rfl, by decide, rfl, uw_X4, tyX4_ok, nmX4, rfl⟩
  · exact ⟨RX5, TX5, 9, tyX5, rfl, by decide, rfl, uw_X5, tyX5_ok, nmX5, rfl⟩
theorem fo_F_heard {ci : Nat} (h : isF ci) : fok ci 3 "FanTalk$Friend" "heard" "I" false .int := by
  rcases h with rfl | rfl | rfl | rfl | rfl
  · exact ⟨RX0, TX0, 9, tyX0, rfl, by decide, rfl, uw_X0, tyX0_ok, nmX0, rfl⟩
  · exact ⟨RX1, TX1, 9, tyX1, rfl, by decide, rfl, uw_X1, tyX1_ok, nmX1, rfl⟩
  · exact ⟨RX3, TX3, 9, tyX3, rfl, by decide, rfl, uw_X3, tyX3_ok, nmX3, rfl⟩
  · exact ⟨RX4, TX4, 9, tyX4, rfl, by decide, rfl, uw_X4, tyX4_ok, nmX4, rfl⟩
  · exact ⟨RX5, TX5, 9, tyX5, rfl, by decide, rfl, uw_X5, tyX5_ok, nmX5, rfl⟩
theorem fo_F_seen {ci : Nat} (h : isF ci) : fok ci 4 "FanTalk$Friend" "seen" "[I" true (.array .int) := by
  rcases h with rfl | rfl | rfl | rfl | rfl
  · exact ⟨RX0, TX0, 9, tyX0, rfl, by decide, rfl, uw_X0, tyX0_ok, nmX0, rfl⟩
  · exact ⟨RX1, TX1, 9, tyX1, rfl, by decide, rfl, uw_X1, tyX1_ok, nmX1, rfl⟩
  · exact ⟨RX3, TX3, 9, tyX3, rfl, by decide, rfl, uw_X3, tyX3_ok, nmX3, rfl⟩
  · exact ⟨RX4, TX4, 9, tyX4, rfl, by decide, rfl, uw_X4, tyX4_ok, nmX4, rfl⟩
  · exact ⟨RX5, TX5, 9, tyX5, rfl, by decide, rfl, uw_X5, tyX5_ok, nmX5, rfl⟩
theorem fo_F_meanings {ci : Nat} (h : isF ci) : fok ci 5 "FanTalk$Friend" "meanings" "[I" true (.array .int) := by
  rcases h with rfl | rfl | rfl | rfl | rfl
  · exact ⟨RX0, TX0, 9, tyX0, rfl, by decide, rfl, uw_X0, tyX0_ok, nmX0, rfl⟩
  · exact ⟨RX1, TX1, 9, tyX1, rfl, by decide, rfl, uw_X1, tyX1_ok, nmX1, rfl⟩
  · exact ⟨RX3, TX3, 9, tyX3, rfl, by decide, rfl, uw_X3, tyX3_ok, nmX3, rfl⟩
  · exact ⟨RX4, TX4, 9, tyX4, rfl, by decide, rfl, uw_X4, tyX4_ok, nmX4, rfl⟩
  · exact ⟨RX5, TX5, 9, tyX5, rfl, by decide, rfl, uw_X5, tyX5_ok, nmX5, rfl⟩
theorem fo_F_lengths {ci : Nat} (h : isF ci) : fok ci 6 "FanTalk$Friend" "lengths" "[I" true (.array .int) := by
  rcases h with rfl | rfl | rfl | rfl | rfl
  · exact ⟨RX0, TX0, 9, tyX0, rfl, by decide, rfl, uw_X0, tyX0_ok, nmX0, rfl⟩
  · exact ⟨RX1, TX1, 9, tyX1, rfl, by decide, rfl, uw_X1, tyX1_ok, nmX1, rfl⟩
  · exact ⟨RX3, TX3, 9, tyX3, rfl, by decide, rfl, uw_X3, tyX3_ok, nmX3, rfl⟩
  · exact ⟨RX4, TX4, 9, tyX4, rfl, by decide, rfl, uw_X4, tyX4_ok, nmX4, rfl⟩
  · exact ⟨RX5, TX5, 9, tyX5, rfl, by decide, rfl, uw_X5, tyX5_ok, nmX5, rfl⟩
theorem fo_F_states {ci : Nat} (h : isF ci) : fok ci 7 "FanTalk$Friend" "states" "[I" true (.array .int) := by
  rcases h with rfl | rfl | rfl | rfl | rfl
  · exact ⟨RX0, TX0, 9, tyX0, rfl, by decide, rfl, uw_X0, tyX0_ok, nmX0, rfl⟩
  · exact ⟨RX1, TX1, 9, tyX1, rfl, by decide, rfl, uw_X1, tyX1_ok, nmX1, rfl⟩
  · exact ⟨RX3, TX3, 9, tyX3, rfl, by decide, rfl, uw_X3, tyX3_ok, nmX3, rfl⟩
  · exact ⟨RX4, TX4, 9, tyX4, rfl, by decide, rfl, uw_X4, tyX4_ok, nmX4, rfl⟩
  · exact ⟨RX5, TX5, 9, tyX5, rfl, by decide, rfl, uw_X5, tyX5_ok, nmX5, rfl⟩
theorem fo_F_entries {ci : Nat} (h : isF ci) : fok ci 8 "FanTalk$Friend" "entries" "I" false .int := by
  rcases h with rfl | rfl | rfl | rfl | rfl
  · exact ⟨RX0, TX0, 9, tyX0, rfl, by decide, rfl, uw_X0, tyX0_ok, nmX0, rfl⟩
  · exact ⟨RX1, TX1, 9, tyX1, rfl, by decide, rfl, uw_X1, tyX1_ok, nmX1, rfl⟩
  · exact ⟨RX3, TX3, 9, tyX3, rfl, by decide, rfl, uw_X3, tyX3_ok, nmX3, rfl⟩
  · exact ⟨RX4, TX4, 9, tyX4, rfl, by decide, rfl, uw_X4, tyX4_ok, nmX4, rfl⟩
  · exact ⟨RX5, TX5, 9, tyX5, rfl, by decide, rfl, uw_X5, tyX5_ok, nmX5, rfl⟩
/-! contracts, by method -/
abbrev CT_X0_sees : List Value → (Gm → Sg → Nat → Prop) → (Gm → Sg → Nat → PO) → Prop := CT yX0_sees cX0_sees 4 (some .int) { frames := 1, cells := 0, slots := 0, locals := 22 }
abbrev CT_X1_sees : List Value → (Gm → Sg → Nat → Prop) → (Gm → Sg → Nat → PO) → Prop := CT yX1_sees cX1_sees 3 (some .int) { frames := 0, cells := 0, slots := 0, locals := 0 }
abbrev CT_X2_take : List Value → (Gm → Sg → Nat → Prop) → (Gm → Sg → Nat → PO) → Prop := CT yX2_take cX2_take 2 (none) { frames := 1, cells := 0, slots := 0, locals := 26 }
abbrev CT_X2_open : List Value → (Gm → Sg → Nat → Prop) → (Gm → Sg → Nat → PO) → Prop := CT yX2_open cX2_open 1 (some .int) { frames := 0, cells := 0, slots := 0, locals := 0 }
abbrev CT_X2_has : List Value → (Gm → Sg → Nat → Prop) → (Gm → Sg → Nat → PO) → Prop := CT yX2_has cX2_has 4 (some .boolean) { frames := 0, cells := 0, slots := 0, locals := 0 }
abbrev CT_X2_add : List Value → (Gm → Sg → Nat → Prop) → (Gm → Sg → Nat → PO) → Prop := CT yX2_add cX2_add 4 (some .int) { frames := 1, cells := 0, slots := 0, locals := 24 }
abbrev CT_X2_put : List Value → (Gm → Sg → Nat → Prop) → (Gm → Sg → Nat → PO) → Prop := CT yX2_put cX2_put 5 (none) { frames := 0, cells := 0, slots := 0, locals := 0 }
abbrev CT_X2_use : List Value → (Gm → Sg → Nat → Prop) → (Gm → Sg → Nat → PO) → Prop := CT yX2_use cX2_use 2 (none) { frames := 1, cells := 0, slots := 0, locals := 21 }
abbrev CT_X2_allEntries : List Value → (Gm → Sg → Nat → Prop) → (Gm → Sg → Nat → PO) → Prop := CT yX2_allEntries cX2_allEntries 3 (some .int) { frames := 0, cells := 0, slots := 0, locals := 0 }
abbrev CT_X2_dropUnused : List Value → (Gm → Sg → Nat → Prop) → (Gm → Sg → Nat → PO) → Prop := CT yX2_dropUnused cX2_dropUnused 6 (some .int) { frames := 1, cells := 0, slots := 0, locals := 24 }
abbrev CT_X2_digestOn : List Value → (Gm → Sg → Nat → Prop) → (Gm → Sg → Nat → PO) → Prop := CT yX2_digestOn cX2_digestOn 7 (some .long) { frames := 0, cells := 0, slots := 0, locals := 0 }
abbrev CT_X3_prefers : List Value → (Gm → Sg → Nat → Prop) → (Gm → Sg → Nat → PO) → Prop := CT yX3_prefers cX3_prefers 3 (some .boolean) { frames := 0, cells := 0, slots := 0, locals := 0 }
abbrev CT_X3_sees : List Value → (Gm → Sg → Nat → Prop) → (Gm → Sg → Nat → PO) → Prop := CT yX3_sees cX3_sees 3 (some .int) { frames := 0, cells := 0, slots := 0, locals := 0 }
abbrev CT_X3_learn : List Value → (Gm → Sg → Nat → Prop) → (Gm → Sg → Nat → PO) → Prop := CT yX3_learn cX3_learn 5 (none) { frames := 1, cells := 0, slots := 0, locals := 25 }
abbrev CT_X3_listen : List Value → (Gm → Sg → Nat → Prop) → (Gm → Sg → Nat → PO) → Prop := CT yX3_listen cX3_listen 7 (none) { frames := 3, cells := 0, slots := 0, locals := 68 }
abbrev CT_X3_timesOf : List Value → (Gm → Sg → Nat → Prop) → (Gm → Sg → Nat → PO) → Prop := CT yX3_timesOf cX3_timesOf 4 (some .int) { frames := 0, cells := 0, slots := 0, locals := 0 }
abbrev CT_X3_choice : List Value → (Gm → Sg → Nat → Prop) → (Gm → Sg → Nat → PO) → Prop := CT yX3_choice cX3_choice 5 (some .int) { frames := 2, cells := 0, slots := 0, locals := 44 }
abbrev CT_X3_shows : List Value → (Gm → Sg → Nat → Prop) → (Gm → Sg → Nat → PO) → Prop := CT yX3_shows cX3_shows 4 (some .boolean) { frames := 1, cells := 0, slots := 0, locals := 21 }
abbrev CT_X4_prefers : List Value → (Gm → Sg → Nat → Prop) → (Gm → Sg → Nat → PO) → Prop := CT yX4_prefers cX4_prefers 3 (some .boolean) { frames := 0, cells := 0, slots := 0, locals := 0 }
abbrev CT_X5_sees : List Value → (Gm → Sg → Nat → Prop) → (Gm → Sg → Nat → PO) → Prop := CT yX5_sees cX5_sees 3 (some .int) { frames := 1, cells := 0, slots := 0, locals := 22 }
abbrev CT_X6_keep : List Value → (Gm → Sg → Nat → Prop) → (Gm → Sg → Nat → PO) → Prop := CT yX6_keep cX6_keep 2 (none) { frames := 2, cells := 0, slots := 0, locals := 47 }
abbrev CT_X6_letTheOldestGo : List Value → (Gm → Sg → Nat → Prop) → (Gm → Sg → Nat → PO) → Prop := CT yX6_letTheOldestGo cX6_letTheOldestGo 3 (none) { frames := 0, cells := 0, slots := 0, locals := 0 }
abbrev CT_X6_bringBack : List Value → (Gm → Sg → Nat → Prop) → (Gm → Sg → Nat → PO) → Prop := CT yX6_bringBack cX6_bringBack 2 (none) { frames := 2, cells := 0, slots := 0, locals := 47 }
abbrev CT_X6_take : List Value → (Gm → Sg → Nat → Prop) → (Gm → Sg → Nat → PO) → Prop := CT yX6_take cX6_take 3 (none) { frames := 2, cells := 0, slots := 0, locals := 47 }
abbrev CT_X7_beats : List Value → (Gm → Sg → Nat → Prop) → (Gm → Sg → Nat → PO) → Prop := CT yX7_beats cX7_beats 3 (some .int) { frames := 0, cells := 0, slots := 0, locals := 0 }
abbrev CT_X7_spell : List Value → (Gm → Sg → Nat → Prop) → (Gm → Sg → Nat → PO) → Prop := CT yX7_spell cX7_spell 6 (none) { frames := 0, cells := 0, slots := 0, locals := 0 }
abbrev CT_X7_number : List Value → (Gm → Sg → Nat → Prop) → (Gm → Sg → Nat → PO) → Prop := CT yX7_number cX7_number 4 (some .int) { frames := 0, cells := 0, slots := 0, locals := 0 }
abbrev CT_X7_isLawful : List Value → (Gm → Sg → Nat → Prop) → (Gm → Sg → Nat → PO) → Prop := CT yX7_isLawful cX7_isLawful 3 (some .boolean) { frames := 1, cells := 0, slots := 0, locals := 21 }
abbrev CT_X7_draw : List Value → (Gm → Sg → Nat → Prop) → (Gm → Sg → Nat → PO) → Prop := CT yX7_draw cX7_draw 6 (none) { frames := 0, cells := 0, slots := 0, locals := 0 }
abbrev CT_X8_put : List Value → (Gm → Sg → Nat → Prop) → (Gm → Sg → Nat → PO) → Prop := CT yX8_put cX8_put 2 (none) { frames := 0, cells := 0, slots := 0, locals := 0 }
abbrev CT_X8_fault : List Value → (Gm → Sg → Nat → Prop) → (Gm → Sg → Nat → PO) → Prop := CT yX8_fault cX8_fault 2 (some .int) { frames := 8, cells := 0, slots := 0, locals := 183 }
abbrev CT_X8_isItem : List Value → (Gm → Sg → Nat → Prop) → (Gm → Sg → Nat → PO) → Prop := CT yX8_isItem cX8_isItem 1 (some .boolean) { frames := 7, cells := 0, slots := 0, locals := 163 }
abbrev CT_X8_isCodeItem : List Value → (Gm → Sg → Nat → Prop) → (Gm → Sg → Nat → PO) → Prop := CT yX8_isCodeItem cX8_isCodeItem 1 (some .boolean) { frames := 3, cells := 0, slots := 0, locals := 60 }
abbrev CT_X8_isEntryItem : List Value → (Gm → Sg → Nat → Prop) → (Gm → Sg → Nat → PO) → Prop := CT yX8_isEntryItem cX8_isEntryItem 5 (some .boolean) { frames := 3, cells := 0, slots := 0, locals := 60 }
abbrev CT_X8_isDraughtItem : List Value → (Gm → Sg → Nat → Prop) → (Gm → Sg → Nat → PO) → Prop := CT yX8_isDraughtItem cX8_isDraughtItem 2 (some .boolean) { frames := 3, cells := 0, slots := 0, locals := 60 }
abbrev CT_X8_isNumberBelow : List Value → (Gm → Sg → Nat → Prop) → (Gm → Sg → Nat → PO) → Prop := CT yX8_isNumberBelow cX8_isNumberBelow 2 (some .boolean) { frames := 0, cells := 0, slots := 0, locals := 0 }
abbrev CT_X8_isName : List Value → (Gm → Sg → Nat → Prop) → (Gm → Sg → Nat → PO) → Prop := CT yX8_isName cX8_isName 3 (some .boolean) { frames := 6, cells := 0, slots := 0, locals := 141 }
abbrev CT_X8_goOn : List Value → (Gm → Sg → Nat → Prop) → (Gm → Sg → Nat → PO) → Prop := CT yX8_goOn cX8_goOn 1 (none) { frames := 2, cells := 0, slots := 0, locals := 40 }
abbrev CT_X8_goOverLetters : List Value → (Gm → Sg → Nat → Prop) → (Gm → Sg → Nat → PO) → Prop := CT yX8_goOverLetters cX8_goOverLetters 1 (none) { frames := 1, cells := 0, slots := 0, locals := 20 }
abbrev CT_X8_goOverFigures : List Value → (Gm → Sg → Nat → Prop) → (Gm → Sg → Nat → PO) → Prop := CT yX8_goOverFigures cX8_goOverFigures 1 (none) { frames := 1, cells := 0, slots := 0, locals := 20 }
abbrev CT_X8_isLetter : List Value → (Gm → Sg → Nat → Prop) → (Gm → Sg → Nat → PO) → Prop := CT yX8_isLetter cX8_isLetter 1 (some .boolean) { frames := 0, cells := 0, slots := 0, locals := 0 }
abbrev CT_X8_isFigure : List Value → (Gm → Sg → Nat → Prop) → (Gm → Sg → Nat → PO) → Prop := CT yX8_isFigure cX8_isFigure 1 (some .boolean) { frames := 0, cells := 0, slots := 0, locals := 0 }
abbrev CT_X9_take : List Value → (Gm → Sg → Nat → Prop) → (Gm → Sg → Nat → PO) → Prop := CT yX9_take cX9_take 2 (none) { frames := 3, cells := 0, slots := 0, locals := 69 }
abbrev CT_X10_begin : List Value → (Gm → Sg → Nat → Prop) → (Gm → Sg → Nat → PO) → Prop := CT yX10_begin cX10_begin 2 (none) { frames := 2, cells := 0, slots := 0, locals := 43 }
abbrev CT_X10_step : List Value → (Gm → Sg → Nat → Prop) → (Gm → Sg → Nat → PO) → Prop := CT yX10_step cX10_step 3 (some .boolean) { frames := 2, cells := 0, slots := 0, locals := 43 }
abbrev CT_X10_number : List Value → (Gm → Sg → Nat → Prop) → (Gm → Sg → Nat → PO) → Prop := CT yX10_number cX10_number 1 (some .int) { frames := 1, cells := 0, slots := 0, locals := 23 }
abbrev CT_X10_greatest : List Value → (Gm → Sg → Nat → Prop) → (Gm → Sg → Nat → PO) → Prop := CT yX10_greatest cX10_greatest 2 (some .int) { frames := 1, cells := 0, slots := 0, locals := 21 }
abbrev CT_X10_closeBehind : List Value → (Gm → Sg → Nat → Prop) → (Gm → Sg → Nat → PO) → Prop := CT yX10_closeBehind cX10_closeBehind 3 (none) { frames := 1, cells := 0, slots := 0, locals := 21 }
abbrev CT_X11_code : List Value → (Gm → Sg → Nat → Prop) → (Gm → Sg → Nat → PO) → Prop := CT yX11_code cX11_code 1 (some .int) { frames := 1, cells := 0, slots := 0, locals := 22 }
abbrev CT_X11_entry : List Value → (Gm → Sg → Nat → Prop) → (Gm → Sg → Nat → PO) → Prop := CT yX11_entry cX11_entry 5 (some .int) { frames := 2, cells := 0, slots := 0, locals := 47 }
abbrev CT_X11_told : List Value → (Gm → Sg → Nat → Prop) → (Gm → Sg → Nat → PO) → Prop := CT yX11_told cX11_told 5 (some .int) { frames := 1, cells := 0, slots := 0, locals := 22 }
abbrev CT_X11_draughts : List Value → (Gm → Sg → Nat → Prop) → (Gm → Sg → Nat → PO) → Prop := CT yX11_draughts cX11_draughts 3 (some .int) { frames := 1, cells := 0, slots := 0, locals := 22 }
abbrev CT_X11_type : List Value → (Gm → Sg → Nat → Prop) → (Gm → Sg → Nat → PO) → Prop := CT yX11_type cX11_type 5 (some .int) { frames := 1, cells := 0, slots := 0, locals := 22 }
abbrev CT_X11_clear : List Value → (Gm → Sg → Nat → Prop) → (Gm → Sg → Nat → PO) → Prop := CT yX11_clear cX11_clear 2 (some .int) { frames := 0, cells := 0, slots := 0, locals := 0 }
abbrev CT_X11_read : List Value → (Gm → Sg → Nat → Prop) → (Gm → Sg → Nat → PO) → Prop := CT yX11_read cX11_read 2 (some .int) { frames := 9, cells := 0, slots := 0, locals := 204 }
abbrev CT_X11_say : List Value → (Gm → Sg → Nat → Prop) → (Gm → Sg → Nat → PO) → Prop := CT yX11_say cX11_say 3 (some .int) { frames := 2, cells := 0, slots := 0, locals := 43 }
abbrev CT_X11_seen : List Value → (Gm → Sg → Nat → Prop) → (Gm → Sg → Nat → PO) → Prop := CT yX11_seen cX11_seen 2 (some .int) { frames := 2, cells := 0, slots := 0, locals := 45 }
abbrev CT_X11_reads : List Value → (Gm → Sg → Nat → Prop) → (Gm → Sg → Nat → PO) → Prop := CT yX11_reads cX11_reads 5 (some .int) { frames := 5, cells := 0, slots := 0, locals := 117 }
abbrev CT_X11_otherwise : List Value → (Gm → Sg → Nat → Prop) → (Gm → Sg → Nat → PO) → Prop := CT yX11_otherwise cX11_otherwise 9 (some .int) { frames := 5, cells := 0, slots := 0, locals := 117 }
abbrev CT_X11_utter : List Value → (Gm → Sg → Nat → Prop) → (Gm → Sg → Nat → PO) → Prop := CT yX11_utter cX11_utter 4 (some .int) { frames := 5, cells := 0, slots := 0, locals := 117 }
abbrev CT_X11_uses : List Value → (Gm → Sg → Nat → Prop) → (Gm → Sg → Nat → PO) → Prop := CT yX11_uses cX11_uses 2 (some .int) { frames := 1, cells := 0, slots := 0, locals := 22 }
abbrev CT_X11_year : List Value → (Gm → Sg → Nat → Prop) → (Gm → Sg → Nat → PO) → Prop := CT yX11_year cX11_year 1 (some .int) { frames := 3, cells := 0, slots := 0, locals := 68 }
abbrev CT_X11_undo : List Value → (Gm → Sg → Nat → Prop) → (Gm → Sg → Nat → PO) → Prop := CT yX11_undo cX11_undo 1 (some .int) { frames := 3, cells := 0, slots := 0, locals := 68 }
abbrev CT_X11_want : List Value → (Gm → Sg → Nat → Prop) → (Gm → Sg → Nat → PO) → Prop := CT yX11_want cX11_want 2 (some .int) { frames := 1, cells := 0, slots := 0, locals := 22 }
abbrev CT_X11_forget : List Value → (Gm → Sg → Nat → Prop) → (Gm → Sg → Nat → PO) → Prop := CT yX11_forget cX11_forget 2 (some .int) { frames := 0, cells := 0, slots := 0, locals := 0 }
abbrev CT_X11_hide : List Value → (Gm → Sg → Nat → Prop) → (Gm → Sg → Nat → PO) → Prop := CT yX11_hide cX11_hide 5 (some .int) { frames := 6, cells := 0, slots := 0, locals := 143 }
abbrev CT_X11_save : List Value → (Gm → Sg → Nat → Prop) → (Gm → Sg → Nat → PO) → Prop := CT yX11_save cX11_save 5 (some .int) { frames := 6, cells := 0, slots := 0, locals := 144 }
abbrev CT_X11_safe : List Value → (Gm → Sg → Nat → Prop) → (Gm → Sg → Nat → PO) → Prop := CT yX11_safe cX11_safe 7 (some .int) { frames := 5, cells := 0, slots := 0, locals := 119 }
abbrev CT_X11_fact : List Value → (Gm → Sg → Nat → Prop) → (Gm → Sg → Nat → PO) → Prop := CT yX11_fact cX11_fact 4 (some .int) { frames := 1, cells := 0, slots := 0, locals := 22 }
abbrev CT_X11_mayBe : List Value → (Gm → Sg → Nat → Prop) → (Gm → Sg → Nat → PO) → Prop := CT yX11_mayBe cX11_mayBe 3 (some .int) { frames := 5, cells := 0, slots := 0, locals := 118 }
abbrev CT_X11_heat : List Value → (Gm → Sg → Nat → Prop) → (Gm → Sg → Nat → PO) → Prop := CT yX11_heat cX11_heat 9 (some .int) { frames := 4, cells := 0, slots := 0, locals := 94 }
abbrev CT_X11_image : List Value → (Gm → Sg → Nat → Prop) → (Gm → Sg → Nat → PO) → Prop := CT yX11_image cX11_image 2 (some .int) { frames := 4, cells := 0, slots := 0, locals := 90 }
abbrev CT_X11_from : List Value → (Gm → Sg → Nat → Prop) → (Gm → Sg → Nat → PO) → Prop := CT yX11_from cX11_from 2 (some .int) { frames := 4, cells := 0, slots := 0, locals := 90 }
abbrev CT_X11_status : List Value → (Gm → Sg → Nat → Prop) → (Gm → Sg → Nat → PO) → Prop := CT yX11_status cX11_status 2 (some .int) { frames := 1, cells := 0, slots := 0, locals := 22 }
abbrev CT_X11_count : List Value → (Gm → Sg → Nat → Prop) → (Gm → Sg → Nat → PO) → Prop := CT yX11_count cX11_count 3 (some .int) { frames := 2, cells := 0, slots := 0, locals := 43 }
abbrev CT_X11_digest : List Value → (Gm → Sg → Nat → Prop) → (Gm → Sg → Nat → PO) → Prop := CT yX11_digest cX11_digest 4 (some .long) { frames := 2, cells := 0, slots := 0, locals := 43 }
abbrev CT_X11_isCode : List Value → (Gm → Sg → Nat → Prop) → (Gm → Sg → Nat → PO) → Prop := CT yX11_isCode cX11_isCode 2 (some .boolean) { frames := 0, cells := 0, slots := 0, locals := 0 }
abbrev CT_X11_isWord : List Value → (Gm → Sg → Nat → Prop) → (Gm → Sg → Nat → PO) → Prop := CT yX11_isWord cX11_isWord 1 (some .boolean) { frames := 0, cells := 0, slots := 0, locals := 0 }
abbrev CT_X11_isKind : List Value → (Gm → Sg → Nat → Prop) → (Gm → Sg → Nat → PO) → Prop := CT yX11_isKind cX11_isKind 1 (some .boolean) { frames := 0, cells := 0, slots := 0, locals := 0 }
abbrev CT_X11_refused : List Value → (Gm → Sg → Nat → Prop) → (Gm → Sg → Nat → PO) → Prop := CT yX11_refused cX11_refused 3 (some .int) { frames := 0, cells := 0, slots := 0, locals := 0 }
abbrev CT_X11_howMany : List Value → (Gm → Sg → Nat → Prop) → (Gm → Sg → Nat → PO) → Prop := CT yX11_howMany cX11_howMany 2 (some .int) { frames := 1, cells := 0, slots := 0, locals := 22 }
abbrev CT_X11_drawSaying : List Value → (Gm → Sg → Nat → Prop) → (Gm → Sg → Nat → PO) → Prop := CT yX11_drawSaying cX11_drawSaying 1 (none) { frames := 1, cells := 0, slots := 0, locals := 25 }
abbrev CT_X11_readSaying : List Value → (Gm → Sg → Nat → Prop) → (Gm → Sg → Nat → PO) → Prop := CT yX11_readSaying cX11_readSaying 4 (some (.object "FanTalk$Friend")) { frames := 4, cells := 0, slots := 0, locals := 94 }
abbrev CT_X11_findHiding : List Value → (Gm → Sg → Nat → Prop) → (Gm → Sg → Nat → PO) → Prop := CT yX11_findHiding cX11_findHiding 6 (some .boolean) { frames := 5, cells := 0, slots := 0, locals := 118 }
abbrev CT_X11_wrongToHide : List Value → (Gm → Sg → Nat → Prop) → (Gm → Sg → Nat → PO) → Prop := CT yX11_wrongToHide cX11_wrongToHide 5 (some .int) { frames := 4, cells := 0, slots := 0, locals := 94 }
abbrev CT_X11_findSaving : List Value → (Gm → Sg → Nat → Prop) → (Gm → Sg → Nat → PO) → Prop := CT yX11_findSaving cX11_findSaving 6 (some .boolean) { frames := 5, cells := 0, slots := 0, locals := 119 }
abbrev CT_X11_wrongToSave : List Value → (Gm → Sg → Nat → Prop) → (Gm → Sg → Nat → PO) → Prop := CT yX11_wrongToSave cX11_wrongToSave 6 (some .int) { frames := 4, cells := 0, slots := 0, locals := 94 }
abbrev CT_X11_isSafe : List Value → (Gm → Sg → Nat → Prop) → (Gm → Sg → Nat → PO) → Prop := CT yX11_isSafe cX11_isSafe 6 (some .boolean) { frames := 4, cells := 0, slots := 0, locals := 94 }
abbrev CT_X11_bearsFacts : List Value → (Gm → Sg → Nat → Prop) → (Gm → Sg → Nat → PO) → Prop := CT yX11_bearsFacts cX11_bearsFacts 5 (some .boolean) { frames := 4, cells := 0, slots := 0, locals := 94 }
abbrev CT_X12_in : List Value → (Gm → Sg → Nat → Prop) → (Gm → Sg → Nat → PO) → Prop := CT yX12_in cX12_in 3 (some .boolean) { frames := 0, cells := 0, slots := 0, locals := 0 }
abbrev CT_X12_bad : List Value → (Gm → Sg → Nat → Prop) → (Gm → Sg → Nat → PO) → Prop := CT yX12_bad cX12_bad 1 (some .int) { frames := 0, cells := 0, slots := 0, locals := 0 }
abbrev CT_X12_no : List Value → (Gm → Sg → Nat → Prop) → (Gm → Sg → Nat → PO) → Prop := CT yX12_no cX12_no 1 (some .int) { frames := 0, cells := 0, slots := 0, locals := 0 }
abbrev CT_X12_full : List Value → (Gm → Sg → Nat → Prop) → (Gm → Sg → Nat → PO) → Prop := CT yX12_full cX12_full 1 (some .int) { frames := 0, cells := 0, slots := 0, locals := 0 }
abbrev CT_X12_get : List Value → (Gm → Sg → Nat → Prop) → (Gm → Sg → Nat → PO) → Prop := CT yX12_get cX12_get 2 (some .int) { frames := 0, cells := 0, slots := 0, locals := 0 }
abbrev CT_X12_set : List Value → (Gm → Sg → Nat → Prop) → (Gm → Sg → Nat → PO) → Prop := CT yX12_set cX12_set 3 (none) { frames := 0, cells := 0, slots := 0, locals := 0 }
abbrev CT_X12_copy : List Value → (Gm → Sg → Nat → Prop) → (Gm → Sg → Nat → PO) → Prop := CT yX12_copy cX12_copy 4 (none) { frames := 0, cells := 0, slots := 0, locals := 0 }
abbrev CT_X12_isCode : List Value → (Gm → Sg → Nat → Prop) → (Gm → Sg → Nat → PO) → Prop := CT yX12_isCode cX12_isCode 2 (some .boolean) { frames := 1, cells := 0, slots := 0, locals := 22 }
abbrev CT_X12_entriesOf : List Value → (Gm → Sg → Nat → Prop) → (Gm → Sg → Nat → PO) → Prop := CT yX12_entriesOf cX12_entriesOf 2 (some .int) { frames := 1, cells := 0, slots := 0, locals := 21 }
abbrev CT_X12_rowOf : List Value → (Gm → Sg → Nat → Prop) → (Gm → Sg → Nat → PO) → Prop := CT yX12_rowOf cX12_rowOf 3 (some .int) { frames := 1, cells := 0, slots := 0, locals := 21 }
abbrev CT_X12_wordOf : List Value → (Gm → Sg → Nat → Prop) → (Gm → Sg → Nat → PO) → Prop := CT yX12_wordOf cX12_wordOf 3 (some .int) { frames := 1, cells := 0, slots := 0, locals := 21 }
abbrev CT_X12_lengthOf : List Value → (Gm → Sg → Nat → Prop) → (Gm → Sg → Nat → PO) → Prop := CT yX12_lengthOf cX12_lengthOf 3 (some .int) { frames := 1, cells := 0, slots := 0, locals := 22 }
abbrev CT_X12_stateOf : List Value → (Gm → Sg → Nat → Prop) → (Gm → Sg → Nat → PO) → Prop := CT yX12_stateOf cX12_stateOf 5 (some .int) { frames := 0, cells := 0, slots := 0, locals := 0 }
abbrev CT_X12_hasRow : List Value → (Gm → Sg → Nat → Prop) → (Gm → Sg → Nat → PO) → Prop := CT yX12_hasRow cX12_hasRow 5 (some .boolean) { frames := 2, cells := 0, slots := 0, locals := 43 }
abbrev CT_X12_addEntry : List Value → (Gm → Sg → Nat → Prop) → (Gm → Sg → Nat → PO) → Prop := CT yX12_addEntry cX12_addEntry 5 (none) { frames := 2, cells := 0, slots := 0, locals := 42 }
abbrev CT_X12_code : List Value → (Gm → Sg → Nat → Prop) → (Gm → Sg → Nat → PO) → Prop := CT yX12_code cX12_code 1 (some .int) { frames := 1, cells := 0, slots := 0, locals := 22 }
abbrev CT_X12_entry : List Value → (Gm → Sg → Nat → Prop) → (Gm → Sg → Nat → PO) → Prop := CT yX12_entry cX12_entry 4 (some .int) { frames := 3, cells := 0, slots := 0, locals := 67 }
abbrev CT_X12_told : List Value → (Gm → Sg → Nat → Prop) → (Gm → Sg → Nat → PO) → Prop := CT yX12_told cX12_told 4 (some .int) { frames := 2, cells := 0, slots := 0, locals := 43 }
abbrev CT_X12_draughts : List Value → (Gm → Sg → Nat → Prop) → (Gm → Sg → Nat → PO) → Prop := CT yX12_draughts cX12_draughts 3 (some .int) { frames := 1, cells := 0, slots := 0, locals := 22 }
abbrev CT_X12_type : List Value → (Gm → Sg → Nat → Prop) → (Gm → Sg → Nat → PO) → Prop := CT yX12_type cX12_type 5 (some .int) { frames := 1, cells := 0, slots := 0, locals := 22 }
abbrev CT_X12_clear : List Value → (Gm → Sg → Nat → Prop) → (Gm → Sg → Nat → PO) → Prop := CT yX12_clear cX12_clear 2 (some .int) { frames := 0, cells := 0, slots := 0, locals := 0 }
abbrev CT_X12_here : List Value → (Gm → Sg → Nat → Prop) → (Gm → Sg → Nat → PO) → Prop := CT yX12_here cX12_here 1 (some .int) { frames := 0, cells := 0, slots := 0, locals := 0 }
abbrev CT_X12_next : List Value → (Gm → Sg → Nat → Prop) → (Gm → Sg → Nat → PO) → Prop := CT yX12_next cX12_next 5 (none) { frames := 1, cells := 0, slots := 0, locals := 22 }
abbrev CT_X12_due : List Value → (Gm → Sg → Nat → Prop) → (Gm → Sg → Nat → PO) → Prop := CT yX12_due cX12_due 3 (some .int) { frames := 2, cells := 0, slots := 0, locals := 46 }
abbrev CT_X12_isNumber : List Value → (Gm → Sg → Nat → Prop) → (Gm → Sg → Nat → PO) → Prop := CT yX12_isNumber cX12_isNumber 3 (some .boolean) { frames := 1, cells := 0, slots := 0, locals := 22 }
abbrev CT_X12_readEntry : List Value → (Gm → Sg → Nat → Prop) → (Gm → Sg → Nat → PO) → Prop := CT yX12_readEntry cX12_readEntry 5 (none) { frames := 3, cells := 0, slots := 0, locals := 68 }
abbrev CT_X12_readItem : List Value → (Gm → Sg → Nat → Prop) → (Gm → Sg → Nat → PO) → Prop := CT yX12_readItem cX12_readItem 2 (none) { frames := 4, cells := 0, slots := 0, locals := 92 }
abbrev CT_X12_read : List Value → (Gm → Sg → Nat → Prop) → (Gm → Sg → Nat → PO) → Prop := CT yX12_read cX12_read 2 (some .int) { frames := 5, cells := 0, slots := 0, locals := 113 }
abbrev CT_X12_make : List Value → (Gm → Sg → Nat → Prop) → (Gm → Sg → Nat → PO) → Prop := CT yX12_make cX12_make 3 (none) { frames := 2, cells := 0, slots := 0, locals := 44 }
abbrev CT_X12_blown : List Value → (Gm → Sg → Nat → Prop) → (Gm → Sg → Nat → PO) → Prop := CT yX12_blown cX12_blown 1 (some .int) { frames := 0, cells := 0, slots := 0, locals := 0 }
abbrev CT_X12_seenBy : List Value → (Gm → Sg → Nat → Prop) → (Gm → Sg → Nat → PO) → Prop := CT yX12_seenBy cX12_seenBy 3 (some .int) { frames := 0, cells := 0, slots := 0, locals := 0 }
abbrev CT_X12_fits : List Value → (Gm → Sg → Nat → Prop) → (Gm → Sg → Nat → PO) → Prop := CT yX12_fits cX12_fits 6 (some .boolean) { frames := 1, cells := 0, slots := 0, locals := 24 }
abbrev CT_X12_readBy : List Value → (Gm → Sg → Nat → Prop) → (Gm → Sg → Nat → PO) → Prop := CT yX12_readBy cX12_readBy 10 (none) { frames := 2, cells := 0, slots := 0, locals := 49 }
abbrev CT_X12_hasRead : List Value → (Gm → Sg → Nat → Prop) → (Gm → Sg → Nat → PO) → Prop := CT yX12_hasRead cX12_hasRead 4 (some .boolean) { frames := 0, cells := 0, slots := 0, locals := 0 }
abbrev CT_X12_isKind : List Value → (Gm → Sg → Nat → Prop) → (Gm → Sg → Nat → PO) → Prop := CT yX12_isKind cX12_isKind 1 (some .boolean) { frames := 1, cells := 0, slots := 0, locals := 22 }
abbrev CT_X12_isLawful : List Value → (Gm → Sg → Nat → Prop) → (Gm → Sg → Nat → PO) → Prop := CT yX12_isLawful cX12_isLawful 2 (some .boolean) { frames := 1, cells := 0, slots := 0, locals := 22 }
abbrev CT_X12_say : List Value → (Gm → Sg → Nat → Prop) → (Gm → Sg → Nat → PO) → Prop := CT yX12_say cX12_say 5 (some .int) { frames := 2, cells := 0, slots := 0, locals := 44 }
abbrev CT_X12_seen : List Value → (Gm → Sg → Nat → Prop) → (Gm → Sg → Nat → PO) → Prop := CT yX12_seen cX12_seen 2 (some .int) { frames := 3, cells := 0, slots := 0, locals := 66 }
abbrev CT_X12_readSaying : List Value → (Gm → Sg → Nat → Prop) → (Gm → Sg → Nat → PO) → Prop := CT yX12_readSaying cX12_readSaying 3 (none) { frames := 3, cells := 0, slots := 0, locals := 78 }
abbrev CT_X12_reads : List Value → (Gm → Sg → Nat → Prop) → (Gm → Sg → Nat → PO) → Prop := CT yX12_reads cX12_reads 4 (some .int) { frames := 4, cells := 0, slots := 0, locals := 100 }
abbrev CT_X12_otherwise : List Value → (Gm → Sg → Nat → Prop) → (Gm → Sg → Nat → PO) → Prop := CT yX12_otherwise cX12_otherwise 8 (some .int) { frames := 4, cells := 0, slots := 0, locals := 100 }
abbrev CT_X12_know : List Value → (Gm → Sg → Nat → Prop) → (Gm → Sg → Nat → PO) → Prop := CT yX12_know cX12_know 2 (none) { frames := 1, cells := 0, slots := 0, locals := 22 }
abbrev CT_X12_utter : List Value → (Gm → Sg → Nat → Prop) → (Gm → Sg → Nat → PO) → Prop := CT yX12_utter cX12_utter 4 (some .int) { frames := 4, cells := 0, slots := 0, locals := 100 }
abbrev CT_X12_uses : List Value → (Gm → Sg → Nat → Prop) → (Gm → Sg → Nat → PO) → Prop := CT yX12_uses cX12_uses 2 (some .int) { frames := 1, cells := 0, slots := 0, locals := 22 }
abbrev CT_X12_year : List Value → (Gm → Sg → Nat → Prop) → (Gm → Sg → Nat → PO) → Prop := CT yX12_year cX12_year 6 (some .int) { frames := 3, cells := 0, slots := 0, locals := 66 }
abbrev CT_X12_undo : List Value → (Gm → Sg → Nat → Prop) → (Gm → Sg → Nat → PO) → Prop := CT yX12_undo cX12_undo 2 (some .int) { frames := 1, cells := 0, slots := 0, locals := 22 }
abbrev CT_X12_want : List Value → (Gm → Sg → Nat → Prop) → (Gm → Sg → Nat → PO) → Prop := CT yX12_want cX12_want 2 (some .int) { frames := 1, cells := 0, slots := 0, locals := 22 }
abbrev CT_X12_forget : List Value → (Gm → Sg → Nat → Prop) → (Gm → Sg → Nat → PO) → Prop := CT yX12_forget cX12_forget 2 (some .int) { frames := 1, cells := 0, slots := 0, locals := 22 }
abbrev CT_X12_readsWant : List Value → (Gm → Sg → Nat → Prop) → (Gm → Sg → Nat → PO) → Prop := CT yX12_readsWant cX12_readsWant 3 (some .boolean) { frames := 1, cells := 0, slots := 0, locals := 21 }
abbrev CT_X12_madeRow : List Value → (Gm → Sg → Nat → Prop) → (Gm → Sg → Nat → PO) → Prop := CT yX12_madeRow cX12_madeRow 3 (some .int) { frames := 0, cells := 0, slots := 0, locals := 0 }
abbrev CT_X12_goOn : List Value → (Gm → Sg → Nat → Prop) → (Gm → Sg → Nat → PO) → Prop := CT yX12_goOn cX12_goOn 4 (some .boolean) { frames := 2, cells := 0, slots := 0, locals := 43 }
abbrev CT_X12_makeLeast : List Value → (Gm → Sg → Nat → Prop) → (Gm → Sg → Nat → PO) → Prop := CT yX12_makeLeast cX12_makeLeast 3 (none) { frames := 0, cells := 0, slots := 0, locals := 0 }
abbrev CT_X12_hide : List Value → (Gm → Sg → Nat → Prop) → (Gm → Sg → Nat → PO) → Prop := CT yX12_hide cX12_hide 6 (some .int) { frames := 3, cells := 0, slots := 0, locals := 78 }
abbrev CT_X12_apart : List Value → (Gm → Sg → Nat → Prop) → (Gm → Sg → Nat → PO) → Prop := CT yX12_apart cX12_apart 4 (some .int) { frames := 1, cells := 0, slots := 0, locals := 24 }
abbrev CT_X12_save : List Value → (Gm → Sg → Nat → Prop) → (Gm → Sg → Nat → PO) → Prop := CT yX12_save cX12_save 9 (some .int) { frames := 3, cells := 0, slots := 0, locals := 78 }
abbrev CT_X12_safe : List Value → (Gm → Sg → Nat → Prop) → (Gm → Sg → Nat → PO) → Prop := CT yX12_safe cX12_safe 8 (some .int) { frames := 3, cells := 0, slots := 0, locals := 78 }
abbrev CT_X12_fact : List Value → (Gm → Sg → Nat → Prop) → (Gm → Sg → Nat → PO) → Prop := CT yX12_fact cX12_fact 3 (some .int) { frames := 2, cells := 0, slots := 0, locals := 44 }
abbrev CT_X12_mayBe : List Value → (Gm → Sg → Nat → Prop) → (Gm → Sg → Nat → PO) → Prop := CT yX12_mayBe cX12_mayBe 5 (some .int) { frames := 3, cells := 0, slots := 0, locals := 78 }
abbrev CT_X12_heat : List Value → (Gm → Sg → Nat → Prop) → (Gm → Sg → Nat → PO) → Prop := CT yX12_heat cX12_heat 10 (some .int) { frames := 3, cells := 0, slots := 0, locals := 78 }
abbrev CT_X12_image : List Value → (Gm → Sg → Nat → Prop) → (Gm → Sg → Nat → PO) → Prop := CT yX12_image cX12_image 2 (some .int) { frames := 1, cells := 0, slots := 0, locals := 23 }
abbrev CT_X12_from : List Value → (Gm → Sg → Nat → Prop) → (Gm → Sg → Nat → PO) → Prop := CT yX12_from cX12_from 2 (some .int) { frames := 1, cells := 0, slots := 0, locals := 23 }
abbrev CT_X12_status : List Value → (Gm → Sg → Nat → Prop) → (Gm → Sg → Nat → PO) → Prop := CT yX12_status cX12_status 2 (some .int) { frames := 1, cells := 0, slots := 0, locals := 22 }
abbrev CT_X12_allEntries : List Value → (Gm → Sg → Nat → Prop) → (Gm → Sg → Nat → PO) → Prop := CT yX12_allEntries cX12_allEntries 3 (some .int) { frames := 2, cells := 0, slots := 0, locals := 42 }
abbrev CT_X12_counted : List Value → (Gm → Sg → Nat → Prop) → (Gm → Sg → Nat → PO) → Prop := CT yX12_counted cX12_counted 2 (some .int) { frames := 3, cells := 0, slots := 0, locals := 64 }
abbrev CT_X12_count : List Value → (Gm → Sg → Nat → Prop) → (Gm → Sg → Nat → PO) → Prop := CT yX12_count cX12_count 2 (some .int) { frames := 4, cells := 0, slots := 0, locals := 85 }
abbrev CT_X12_digest : List Value → (Gm → Sg → Nat → Prop) → (Gm → Sg → Nat → PO) → Prop := CT yX12_digest cX12_digest 5 (some .long) { frames := 4, cells := 0, slots := 0, locals := 85 }
