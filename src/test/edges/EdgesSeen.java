/** Promises 12 to 27, sentence by sentence: what is there, and what was borne. */
final class EdgesSeen {
  private static final String BOTH = "throws NoSuchElementException, IllegalArgumentException";
  private static final String WRONG = "throws IllegalArgumentException";
  private static final String MISSING = "throws NoSuchElementException";

  private static Script rich(int promise, String sentence) {
    return Script.on(promise, sentence).go(Desks.RICH);
  }

  // ---- promise 12

  static void promise12_told() {
    Script s = Script.on(12, "0 LAYERS, 1 HARMS, 2 EVENTS, 3 TRIGGER, 4 SPREAD, 5 PICK, 6 YEARS that LACK (bits), 7 GAPS (bits, those "
        + "that LACK, too), 8 INSURERS that are SETTLED (bits), 9 that are FALLEN, 10 that SIGNED any LAYER.");
    s.go("place(2, 0, 10, 1)", "place(2, 10, 10, 1)", "place(0, 0, 1, 1)", "sign(1, 0, 1)", "sign(0, 9, 1)", "lack(11)", "lack(1)",
        "rules(1, 2, 3)", "harm(1, 2, 3, 4)", "harm(1, 2, 3, 4)", "settle(1, 1)", "settle(9, 1)", "fall(2)");
    long[] due = {3, 2, 13, 1, 2, 3, 2048 + 2, 4095 - 4 - 1, 512 + 2, 4, 512 + 1};
    for (int what = 0; what <= 10; what++) s.is("told(" + what + ")", due[what]);
  }

  static void promise12_allBits() {
    Script s = new Script("promise 12: all bits, and none");
    for (int y = 0; y < 12; y++) s.go("lack(" + y + ")");
    s.is("told(6)", 4095).is("told(7)", 4095);
    Script full = new Script("promise 12: no gaps, all signed");
    for (int y = 0; y < 12; y++) full.go("place(" + y + ", 0, 1, 1)");
    for (int i = 0; i < 10; i++) full.go("sign(" + i + ", " + i + ", 10)");
    full.is("told(7)", 0).is("told(6)", 0).is("told(10)", 1023);
  }

  static void promise12_wrong() {
    Script.on(12, "IllegalArgumentException: another what (so below).").bounds("told(#)", 0, 10).is("status(1)", 4);
  }

  static void promise12_refused() {
    rich(12, WRONG).bounds("told(#)", 0, 10).is("status(1)", 4).is("status(0)", 0).is("told(2)", Desks.EVENTS);
  }

  // ---- promise 13

  static void promise13_kinds() {
    Script s = Script.on(13, "0 its kind (0 place(), 1 sign(), 2 lack(), 3 rules(), 4 harm(), 5 grow(), 6 settle(), 7 fall(), 8 reopen())");
    s.go("place(5, 0, 9, 1)", "sign(0, 3, 2)", "lack(6)", "rules(2, 1, 3)", "harm(7, 8, 9, 1)", "grow(0, 1)", "settle(4, 1)", "fall(2)",
        "reopen(0)");
    for (int k = 0; k < 9; k++) s.is("event(" + k + ", 0)", k);
  }

  static void promise13_tellsOf() {
    Script s = Script.on(13, "1 the LAYER, YEAR, TRIGGER, HARM, INSURER that it tells of (by 0 and 4 the one that it made)");
    s.go("place(5, 0, 9, 1)", "place(4, 0, 9, 1)", "sign(1, 3, 2)", "lack(11)", "rules(2, 1, 3)", "harm(7, 8, 9, 1)",
        "harm(5, 5, 5, 1)", "grow(1, 2)", "settle(4, 9)", "fall(2)", "reopen(1)");
    int[] due = {0, 1, 1, 11, 2, 0, 1, 1, 4, 2, 1};
    for (int k = 0; k < due.length; k++) s.is("event(" + k + ", 1)", due[k]);
  }

  static void promise13_refused() {
    Script.on(13, BOTH).numbers("event(#, 0)", 0).go(Desks.RICH).numbers("event(#, 1)", Desks.EVENTS).bounds("event(0, #)", 0, 1)
        .bounds("event(17, #)", 0, 1).missing("event(18, 2)").missing("event(-1, -1)").is("back()", 17).missing("event(17, 0)");
  }

  static void promise13_full() {
    new Script("promise 13: the 160th").go("harm(0, 0, 0, 1)").go(Desks.times(158, "grow(0, 1)")).missing("event(159, 0)")
        .go("fall(7)").is("event(159, 0)", 7).is("event(159, 1)", 7).missing("event(160, 0)").is("event(0, 0)", 4);
  }

  // ---- promise 14

  static void promise14_ofALayer() {
    Script s = Script.on(14, "0 its YEAR, 1 FROM, 2 SIZE, 3 TIMES, 4 USED, 5 LEFT, 6 its HOLE, 7 how many SIGNED it, 8 tenths that are "
        + "not SIGNED");
    s.go("place(11, 900000000, 100000000, 4)", "place(11, 0, 1, 1)", "sign(0, 1, 3)", "sign(0, 0, 4)", "harm(11, 11, 11, 1000000000)");
    long[] high = {11, 900000000, 100000000, 4, 100000000, 300000000, 899999999, 2, 3};
    long[] low = {11, 0, 1, 1, 1, 0, 0, 0, 10};
    for (int what = 0; what <= 8; what++) s.is("layer(0, " + what + ")", high[what]).is("layer(1, " + what + ")", low[what]);
  }

  static void promise14_placeInItsYear() {
    Script s = Script.on(14, "9 its place in its YEAR (0 the lowest)");
    for (int k = 0; k < 6; k++) s.go("place(3, " + (50 - 10 * k) + ", 10, 1)").is("layer(" + k + ", 9)", 0);
    for (int k = 0; k < 6; k++) s.is("layer(" + k + ", 9)", 5 - k);
    s.go("place(4, 5, 1, 1)").is("layer(6, 9)", 0);
  }

  static void promise14_usedUp() {
    Script.on(14, "10 1 it is used up (nothing LEFT), 0 not").go("place(0, 0, 5, 2)").is("layer(0, 10)", 0)
        .go("harm(0, 0, 0, 5)", "harm(0, 0, 0, 4)").is("layer(0, 5)", 1).is("layer(0, 10)", 0)
        .go("harm(0, 0, 0, 1)").is("layer(0, 5)", 0).is("layer(0, 10)", 1).is("back()", 3).is("layer(0, 10)", 0);
  }

  static void promise14_refused() {
    Script.on(14, BOTH).numbers("layer(#, 0)", 0).go(Desks.RICH).numbers("layer(#, 10)", Desks.LAYERS).bounds("layer(0, #)", 0, 10)
        .bounds("layer(3, #)", 0, 10).missing("layer(4, 11)").missing("layer(-1, -1)");
    new Script("promise 14: the 40th").go(Desks.layers(39)).missing("layer(39, 0)").go("place(9, 7, 1, 1)").is("layer(39, 1)", 7)
        .missing("layer(40, 0)");
  }

  // ---- promise 15

  static void promise15_had() {
    Script.on(15, "2 what it had of all that the LAYER took (whoever BORE it)")
        .go("place(0, 0, 10, 4)", "sign(0, 5, 2)", "sign(0, 0, 3)", "sign(0, 9, 4)", "fall(9)", "settle(5, 1)")
        .is("signed(0, 0, 2)", 0).go("harm(0, 0, 0, 10)").is("signed(0, 0, 2)", 2).is("signed(0, 1, 2)", 3).is("signed(0, 2, 2)", 4)
        .is("bears(0, 9)", 0).is("bears(0, 5)", 0).go("harm(0, 0, 0, 5)")
        // 5 by 9 tenths is 4: 1, 1, 2.
        .is("signed(0, 0, 2)", 3).is("signed(0, 1, 2)", 4).is("signed(0, 2, 2)", 6).go("reopen(1)").is("signed(0, 2, 2)", 6);
  }

  static void promise15_inOrder() {
    Script.on(15, "Of the k-th that SIGNED a LAYER (in order, from 0 on): 0 the INSURER, 1 tenths")
        .go("place(0, 0, 10, 1)", "sign(0, 9, 1)", "sign(0, 0, 2)", "sign(0, 5, 3)", "sign(0, 1, 4)")
        .is("signed(0, 0, 0)", 9).is("signed(0, 1, 0)", 0).is("signed(0, 2, 0)", 5).is("signed(0, 3, 0)", 1)
        .is("signed(0, 0, 1)", 1).is("signed(0, 1, 1)", 2).is("signed(0, 2, 1)", 3).is("signed(0, 3, 1)", 4);
  }

  static void promise15_notSoMany() {
    Script.on(15, "NONE: there are not so many.").go("place(0, 0, 10, 1)", "place(0, 10, 10, 1)").is("signed(0, 0, 0)", -1)
        .is("signed(0, 0, 2)", -1).go("sign(0, 9, 1)").is("signed(0, 1, 0)", -1).is("signed(1, 0, 1)", -1)
        .go("sign(0, 0, 2)", "sign(0, 5, 3)", "sign(0, 1, 4)").is("signed(0, 3, 1)", 4).is("signed(0, 4, 0)", -1)
        .is("signed(0, 4, 1)", -1).is("signed(0, 4, 2)", -1).is("signed(0, 2147483647, 2)", -1);
  }

  static void promise15_below0() {
    Script.on(15, "IllegalArgumentException: k below 0 (so below).").go("place(0, 0, 10, 1)").atLeast("signed(0, #, 0)", 0)
        .go("sign(0, 9, 1)").atLeast("signed(0, #, 2)", 0).is("status(1)", 4);
  }

  static void promise15_refused() {
    rich(15, BOTH).numbers("signed(#, 0, 0)", Desks.LAYERS).bounds("signed(1, 0, #)", 0, 2).bounds("signed(1, 9, #)", 0, 2)
        .missing("signed(4, -1, 0)").missing("signed(-1, 0, 3)").wrong("signed(0, -1, 3)");
  }

  // ---- promise 16

  static void promise16_ofAYear() {
    Script s = Script.on(16, "0 how many LAYERS, 1 its lowest FROM, 2 its greatest TOP");
    s.go("place(1, 500, 50, 2)").is("year(1, 0)", 1).is("year(1, 1)", 500).is("year(1, 2)", 550)
        .go("place(1, 20, 30, 1)").is("year(1, 0)", 2).is("year(1, 1)", 20).is("year(1, 2)", 550)
        .go("place(1, 900000000, 100000000, 4)").is("year(1, 0)", 3).is("year(1, 2)", 1000000000)
        .go("place(1, 0, 20, 1)").is("year(1, 1)", 0).is("year(2, 0)", 0).is("year(0, 0)", 0);
  }

  static void promise16_noneOfAGap() {
    Script s = Script.on(16, "(NONE both of a GAP)").go("lack(3)");
    for (int y = 0; y < 12; y++) s.is("year(" + y + ", 1)", -1).is("year(" + y + ", 2)", -1).is("year(" + y + ", 0)", 0);
    s.go("place(4, 0, 1, 1)").is("year(4, 1)", 0).is("year(4, 2)", 1).is("back()", 1).is("year(4, 1)", -1).is("year(4, 2)", -1);
  }

  static void promise16_together() {
    Script.on(16, "3 SIZES together, 4 HOLES together, 5 USED together, 6 LEFT together")
        .go("place(1, 500, 50, 2)").is("year(1, 3)", 50).is("year(1, 4)", 500).is("year(1, 5)", 0).is("year(1, 6)", 100)
        .go("place(1, 100, 30, 1)", "harm(1, 1, 1, 130)").is("year(1, 3)", 80).is("year(1, 4)", 470)
        .is("year(1, 5)", 30).is("year(1, 6)", 100).go("grow(0, 371)").is("year(1, 5)", 31).is("year(1, 6)", 99)
        .is("year(2, 3)", 0).is("year(2, 4)", 0).is("year(2, 5)", 0).is("year(2, 6)", 0)
        .go("place(1, 0, 100, 1)").is("year(1, 4)", 370);
    Script s = new Script("promise 16: beyond an int");
    for (int k = 0; k < 6; k++) s.go("place(0, " + 100000000 * k + ", 100000000, 4)");
    for (int h = 0; h < 4; h++) s.go("harm(0, 0, 0, 1000000000)").is("year(0, 5)", 600000000L * (h + 1));
    s.is("year(0, 3)", 600000000).is("year(0, 6)", 0).is("back()", 9).is("year(0, 6)", 600000000);
  }

  static void promise16_refused() {
    rich(16, WRONG).bounds("year(#, 0)", 0, 11).bounds("year(#, 6)", 0, 11).bounds("year(0, #)", 0, 6).bounds("year(11, #)", 0, 6)
        .is("status(1)", 16);
  }

  // ---- promise 17

  static void promise17_lies() {
    Script.on(17, "in which a height (0 to 1,000,000,000) lies (FROM does, TOP not)")
        .go("place(1, 10, 5, 1)", "place(1, 15, 5, 1)", "place(2, 0, 1, 1)", "place(2, 900000000, 100000000, 1)")
        .is("at(1, 10)", 0).is("at(1, 14)", 0).is("at(1, 15)", 1).is("at(1, 19)", 1).is("at(2, 0)", 2).is("at(2, 900000000)", 3)
        .is("at(2, 999999999)", 3).bounds("at(1, #)", 0, 1000000000).bounds("at(2, #)", 0, 1000000000);
  }

  static void promise17_inNone() {
    Script.on(17, "NONE: in none, but there is one above").go("place(1, 10, 5, 1)", "place(1, 20, 5, 1)", "place(2, 1, 5, 1)")
        .is("at(1, 0)", -1).is("at(1, 9)", -1).is("at(1, 15)", -1).is("at(1, 19)", -1).is("at(2, 0)", -1);
  }

  static void promise17_noneAbove() {
    Script.on(17, "-2: none is above, either").go("place(1, 10, 5, 1)", "place(2, 900000000, 100000000, 1)", "lack(3)")
        .is("at(1, 15)", -2).is("at(1, 1000000000)", -2).is("at(2, 1000000000)", -2).is("at(0, 0)", -2).is("at(3, 0)", -2)
        .is("at(0, 1000000000)", -2);
  }

  static void promise17_refused() {
    rich(17, WRONG).bounds("at(#, 0)", 0, 11).bounds("at(0, #)", 0, 1000000000).wrong("at(12, -1)").is("status(1)", 9);
  }

  // ---- promise 18

  static void promise18_fromTheLowest() {
    Script s = Script.on(18, "The k-th LAYER of a YEAR from the lowest on");
    for (int k = 0; k < 6; k++) s.go("place(3, " + (50 - 10 * k) + ", 10, 1)").is("rung(3, 0)", k);
    for (int k = 0; k < 6; k++) s.is("rung(3, " + k + ")", 5 - k);
  }

  static void promise18_notSoMany() {
    Script.on(18, "NONE: there are not so many.").is("rung(0, 0)", -1).go("place(3, 0, 10, 1)").is("rung(3, 0)", 0).is("rung(3, 1)", -1)
        .is("rung(4, 0)", -1).is("rung(2, 0)", -1).go("place(3, 10, 10, 1)", "place(3, 20, 10, 1)", "place(3, 30, 10, 1)",
            "place(3, 40, 10, 1)", "place(3, 50, 10, 1)", "place(4, 0, 1, 1)")
        .is("rung(3, 5)", 5).is("rung(3, 6)", -1).is("rung(3, 2147483647)", -1).is("back()", 6).is("rung(4, 0)", -1);
  }

  static void promise18_refused() {
    rich(18, WRONG).bounds("rung(#, 0)", 0, 11).atLeast("rung(0, #)", 0).atLeast("rung(11, #)", 0).is("status(1)", 8);
  }

  // ---- promise 19

  static void promise19_ofAHarm() {
    Script s = Script.on(19, "0 FIRST, 1 LAST, 2 SHOWN, 3 LOSS (with what it GREW), 4 what of it the INSURED BEARS, 5 how often it GREW");
    s.go("place(1, 0, 4, 1)", "sign(0, 1, 10)", "harm(1, 2, 5, 30)", "harm(0, 11, 11, 1)");
    long[] due = {1, 2, 5, 30, 26, 0};
    for (int what = 0; what <= 5; what++) s.is("damage(0, " + what + ")", due[what]);
    s.go("grow(0, 4)").is("damage(0, 3)", 34).is("damage(0, 5)", 1).go("reopen(0)", "grow(0, 1)").is("damage(0, 3)", 35)
        .is("damage(0, 5)", 2).is("damage(0, 4)", 31).is("damage(1, 5)", 0).is("damage(1, 3)", 1).is("damage(1, 1)", 11)
        .is("back()", 6).is("damage(0, 5)", 1);
  }

  static void promise19_refused() {
    Script.on(19, BOTH).numbers("damage(#, 0)", 0).go(Desks.RICH).numbers("damage(#, 5)", Desks.HARMS).bounds("damage(0, #)", 0, 5)
        .bounds("damage(1, #)", 0, 5).missing("damage(2, 6)").missing("damage(-1, -1)");
  }

  // ---- promises 20 to 22

  static void promise20_took() {
    Script.on(20, "What a LAYER took of a HARM.").go("place(0, 0, 10, 2)", "place(0, 10, 10, 1)", "harm(0, 0, 0, 10)", "harm(0, 0, 0, 11)",
        "harm(0, 0, 0, 11)").is("took(0, 0)", 10).is("took(0, 1)", 0).is("took(1, 0)", 10).is("took(1, 1)", 1).is("took(2, 0)", 0)
        .is("took(2, 1)", 9);
  }

  static void promise20_refused() {
    Script.on(20, MISSING).numbers("took(#, 0)", 0).go("harm(0, 0, 0, 1)").numbers("took(0, #)", 0).go("place(0, 0, 1, 1)", "back()")
        .go("place(0, 0, 5, 1)", "place(1, 0, 5, 1)", "harm(0, 0, 0, 1)").numbers("took(#, 1)", 2).numbers("took(1, #)", 2)
        .missing("took(2, 2)").is("status(1)", 0);
  }

  static void promise21_hole() {
    Script.on(21, "What of the HOLE of a LAYER a HARM went through.").go("place(0, 10, 5, 1)", "place(0, 20, 5, 1)", "harm(0, 0, 0, 9)",
        "harm(0, 0, 0, 16)").is("hole(0, 0)", 9).is("hole(0, 1)", 0).is("hole(1, 0)", 10).is("hole(1, 1)", 1).is("falls(1, 1)", 11)
        .go("grow(0, 1)").is("hole(0, 0)", 10).go("grow(0, 1)").is("hole(0, 0)", 10).is("hole(0, 1)", 1);
  }

  static void promise21_refused() {
    Script.on(21, MISSING).numbers("hole(#, 0)", 0).go("harm(0, 0, 0, 1)").numbers("hole(0, #)", 0)
        .go("place(0, 0, 5, 1)", "place(1, 0, 5, 1)", "harm(0, 0, 0, 1)").numbers("hole(#, 1)", 2).numbers("hole(1, #)", 2)
        .missing("hole(2, 2)").is("status(1)", 0);
  }

  static void promise22_moved() {
    Script.on(22, "What a LAYER GAVE in all for a HARM, less what it GOT.")
        .go("place(0, 0, 10, 1)", "place(1, 0, 10, 1)", "rules(0, 2, 3)", "harm(0, 1, 1, 8)").is("moved(0, 0)", -4).is("moved(0, 1)", 4)
        .go("rules(0, 2, 1)", "grow(0, 2)").is("moved(0, 0)", -4 + 1).is("moved(0, 1)", 4 - 1)
        .go("rules(0, 0, 1)", "grow(0, 2)").is("moved(0, 0)", -3).go("harm(0, 1, 1, 2)").is("moved(1, 0)", 0).is("moved(0, 0)", -3)
        .go("reopen(0)").is("moved(0, 0)", 0).is("moved(0, 1)", 0);
  }

  static void promise22_refused() {
    Script.on(22, MISSING).numbers("moved(#, 0)", 0).go("harm(0, 0, 0, 1)").numbers("moved(0, #)", 0)
        .go("place(0, 0, 5, 1)", "place(1, 0, 5, 1)", "harm(0, 0, 0, 1)").numbers("moved(#, 1)", 2).numbers("moved(1, #)", 2)
        .missing("moved(2, 2)").is("status(1)", 0);
  }

  // ---- promises 23 and 24

  static void promise23_bears() {
    Script.on(23, "What of a HARM an INSURER (0 to 9) BEARS.")
        .go("place(0, 0, 10, 1)", "sign(0, 9, 4)", "sign(0, 1, 5)", "harm(0, 0, 0, 10)", "harm(0, 0, 0, 1)")
        .is("bears(0, 0)", 1).is("bears(0, 1)", 5).is("bears(0, 9)", 4).is("bears(0, 5)", 0).is("bears(1, 0)", 1).is("bears(1, 9)", 0)
        .bounds("bears(0, #)", 0, 9).bounds("bears(1, #)", 0, 9);
  }

  static void promise23_refused() {
    Script.on(23, BOTH).numbers("bears(#, 0)", 0).go(Desks.RICH).numbers("bears(#, 9)", Desks.HARMS).missing("bears(2, 10)")
        .missing("bears(-1, -1)").wrong("bears(0, 10)").wrong("bears(1, -1)");
  }

  static void promise24_falls() {
    Script.on(24, "What of a HARM the INSURED BEARS for a reason (0 to 6).").go("place(0, 2, 10, 1)", "sign(0, 0, 10)", "harm(0, 1, 1, 28)",
        "harm(2, 2, 2, 3)").is("falls(0, 0)", 10).is("falls(0, 1)", 2).is("falls(0, 2)", 2).is("falls(0, 3)", 14).is("falls(0, 4)", 0)
        .is("falls(0, 6)", 0).is("falls(1, 3)", 3).is("falls(1, 0)", 0).bounds("falls(0, #)", 0, 6).bounds("falls(1, #)", 0, 6);
  }

  static void promise24_refused() {
    Script.on(24, BOTH).numbers("falls(#, 0)", 0).go(Desks.RICH).numbers("falls(#, 6)", Desks.HARMS).missing("falls(2, 7)")
        .missing("falls(-1, -1)").wrong("falls(0, 7)").wrong("falls(1, -1)");
  }

  // ---- promise 25

  static void promise25_state() {
    Script.on(25, "1 0 SOUND, 1 SETTLED, 2 FALLEN (0 of the INSURED)").go("settle(1, 3)", "fall(9)").is("insurer(0, 1)", 0)
        .is("insurer(1, 1)", 1).is("insurer(9, 1)", 2).is("insurer(2, 1)", 0).is("back()", 1).is("insurer(9, 1)", 0);
  }

  static void promise25_bearsOfAll() {
    Script.on(25, "Of an INSURER (0 to 9): 0 what it BEARS of all HARMS").go("place(0, 0, 100000000, 4)", "sign(0, 9, 10)")
        .is("insurer(9, 0)", 0).go("harm(0, 0, 0, 1000000000)", "harm(0, 0, 0, 1000000000)", "harm(0, 0, 0, 1000000000)")
        .is("insurer(9, 0)", 300000000).is("insurer(0, 0)", 2700000000L).is("insurer(1, 0)", 0).bounds("insurer(#, 0)", 0, 9);
  }

  static void promise25_cash() {
    Script s = Script.on(25, "2 CASH it paid (of the INSURED what he had from all)").is("insurer(0, 2)", 0).is("insurer(5, 2)", 0);
    for (int i = 1; i <= 9; i++) s.go("settle(" + i + ", 1000000000)").is("insurer(0, 2)", 1000000000L * i);
    s.is("insurer(9, 2)", 1000000000).is("insurer(1, 2)", 1000000000).is("back()", 8).is("insurer(0, 2)", 8000000000L);
  }

  static void promise25_layersSigned() {
    Script s = Script.on(25, "3 LAYERS it SIGNED").go(Desks.layers(40));
    s.is("insurer(0, 3)", 0).is("insurer(9, 3)", 0);
    for (int l = 0; l < 40; l++) s.go("sign(" + l + ", 9, 1)");
    s.is("insurer(9, 3)", 40).is("insurer(0, 3)", 0).go("sign(7, 0, 1)").is("insurer(0, 3)", 1).go("fall(9)").is("insurer(9, 3)", 40);
  }

  static void promise25_leftSigned() {
    Script.on(25, "4 of what these have LEFT its tenths (each cut) together")
        .go("place(0, 0, 19, 1)", "place(1, 0, 19, 1)", "sign(0, 3, 1)", "sign(1, 3, 1)").is("insurer(3, 4)", 2)
        .go("harm(0, 0, 0, 9)").is("insurer(3, 4)", 2).go("grow(0, 1)").is("insurer(3, 4)", 1).go("grow(0, 9)").is("insurer(3, 4)", 1)
        .is("insurer(4, 4)", 0).is("insurer(0, 4)", 0).go("settle(3, 0)").is("insurer(3, 4)", 1)
        .go("place(2, 0, 100000000, 4)", "sign(2, 8, 10)").is("insurer(8, 4)", 400000000);
  }

  static void promise25_refused() {
    rich(25, WRONG).bounds("insurer(#, 4)", 0, 9).bounds("insurer(0, #)", 0, 4).bounds("insurer(9, #)", 0, 4).is("status(1)", 12);
  }

  // ---- promises 26 and 27

  static void promise26_burden() {
    Script s = Script.on(26, "What the INSURED BEARS of all HARMS for a reason (0 to 6).");
    s.go("place(0, 1, 30, 1)", "sign(0, 0, 1)", "sign(0, 1, 2)", "sign(0, 2, 3)", "settle(1, 0)", "fall(2)", "harm(0, 1, 1, 64)");
    long[] due = {3, 1, 1, 32, 12, 6, 9};
    for (int reason = 0; reason < 7; reason++) s.is("burden(" + reason + ")", due[reason]);
    s.go("harm(5, 5, 5, 1000000000)", "harm(5, 5, 5, 1000000000)", "harm(5, 5, 5, 1000000000)").is("burden(3)", 3000000032L)
        .go("harm(0, 0, 0, 4)").is("burden(1)", 2).is("burden(2)", 4);
  }

  static void promise26_refused() {
    rich(26, WRONG).bounds("burden(#)", 0, 6).is("status(1)", 4);
  }

  static void promise27_alike() {
    Script s = Script.on(27, "The k-th INSURER (from 0 on, 0 to 9) by what it BEARS of all HARMS, the most first, of alike ones the lesser "
        + "number first.");
    for (int k = 0; k < 10; k++) s.is("rank(" + k + ")", k);
    s.go("place(0, 0, 10, 4)", "sign(0, 9, 4)", "sign(0, 4, 3)", "sign(0, 2, 3)", "harm(0, 0, 0, 10)");
    int[] due = {9, 2, 4, 0, 1, 3, 5, 6, 7, 8};
    for (int k = 0; k < 10; k++) s.is("rank(" + k + ")", due[k]);
    s.go("harm(5, 5, 5, 3)").is("rank(0)", 9).is("rank(1)", 0).is("rank(2)", 2).is("rank(3)", 4)
        .go("harm(5, 5, 5, 1)").is("rank(0)", 0).is("rank(1)", 9);
  }

  static void promise27_refused() {
    rich(27, WRONG).bounds("rank(#)", 0, 9).is("status(1)", 4);
  }

  static void promise27_wrong() {
    Script.on(27, "IllegalArgumentException: k is not 0 to 9.").bounds("rank(#)", 0, 9).is("status(1)", 4).is("status(0)", 0);
  }
}
