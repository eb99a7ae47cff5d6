/** Promises 44, 45 and 47 to 51, sentence by sentence: towers looked at, and refusals counted. */
final class EdgesTowers {
  private static final String WRONG = "throws IllegalArgumentException";
  private static final String MISSING = "throws NoSuchElementException";

  private static Script rich(int promise, String sentence) {
    return Script.on(promise, sentence).go(Desks.RICH);
  }

  // ---- promise 44

  static void promise44_cover() {
    Script.on(44, "How much of what lies from one height up to another one").go("place(0, 10, 5, 1)", "place(0, 15, 5, 4)", "place(0, 30, 5, 1)")
        .is("cover(0, 0, 10)", 0).is("cover(0, 0, 11)", 1).is("cover(0, 9, 10)", 0).is("cover(0, 10, 15)", 5).is("cover(0, 14, 16)", 2)
        .is("cover(0, 19, 30)", 1).is("cover(0, 20, 30)", 0).is("cover(0, 20, 31)", 1).is("cover(0, 34, 99)", 1).is("cover(0, 35, 99)", 0)
        .is("cover(0, 11, 12)", 1).is("cover(0, 0, 1000000000)", 15).is("cover(1, 0, 1000000000)", 0)
        // Used or not, what lies in a layer is covered.
        .go("harm(0, 0, 0, 35)").is("cover(0, 0, 1000000000)", 15);
  }

  static void promise44_heights() {
    Script s = Script.on(44, "(0 to 1,000,000,000 both, not less)").go("place(0, 10, 5, 1)").is("cover(0, 12, 12)", 0).is("cover(0, 0, 0)", 0)
        .is("cover(0, 1000000000, 1000000000)", 0).bounds("cover(0, #, 12)", 0, 12).bounds("cover(0, 12, #)", 12, 1000000000)
        .bounds("cover(0, #, 1000000000)", 0, 1000000000).bounds("cover(0, 0, #)", 0, 1000000000).wrong("cover(0, 13, 12)");
    for (int k = 0; k < 6; k++) s.go("place(1, " + 100000000 * k + ", 100000000, 1)");
    s.is("cover(1, 0, 1000000000)", 600000000).is("cover(1, 1, 599999999)", 599999998);
  }

  static void promise44_refused() {
    rich(44, WRONG).bounds("cover(#, 0, 50)", 0, 11).wrong("cover(12, 13, 12)").is("status(1)", 5);
  }

  // ---- promise 45

  static void promise45_took1() {
    Script.on(45, "With how much its YEAR would have to be FILLED, for a new HARM, so that a LAYER took 1")
        .go("place(0, 10, 5, 2)", "place(0, 15, 5, 1)", "place(0, 30, 5, 1)", "place(1, 0, 5, 1)", "place(2, 900000000, 100000000, 4)")
        .is("reach(0)", 11).is("reach(1)", 16).is("reach(2)", 31).is("reach(3)", 1).is("reach(4)", 900000001)
        // Once taken to the full by one harm, a layer of two times has as much left for another one.
        .go("harm(0, 0, 0, 15)").is("reach(0)", 11).is("reach(1)", 16).go("harm(0, 0, 0, 14)").is("reach(1)", 12).is("reach(2)", 27)
        .is("takes(0, 0, 0, 26, 2)", 0).is("takes(0, 0, 0, 27, 2)", 1).is("takes(0, 0, 0, 11, 0)", 1).is("takes(0, 0, 0, 10, 0)", 0);
  }

  static void promise45_nothingLeft() {
    Script.on(45, "NONE: it has nothing LEFT").go("place(0, 0, 5, 1)", "place(0, 5, 5, 1)", "harm(0, 0, 0, 4)").is("reach(0)", 1)
        .is("reach(1)", 2).go("grow(0, 1)").is("reach(0)", -1).is("reach(1)", 1).go("grow(0, 5)").is("reach(1)", -1)
        .is("back()", 4).is("reach(1)", 1).is("reach(0)", -1);
  }

  static void promise45_refused() {
    Script.on(45, MISSING).numbers("reach(#)", 0).go(Desks.RICH).numbers("reach(#)", Desks.LAYERS).is("status(0)", 8);
  }

  // ---- promise 47

  static void promise47_widest() {
    Script.on(47, "The widest HOLE of a YEAR: the LAYER above it (what 0), of as wide ones the lowest, how wide it is (1)")
        .go("place(0, 50, 5, 1)").is("widest(0, 0)", 0).is("widest(0, 1)", 50).go("place(0, 20, 5, 1)").is("widest(0, 0)", 0)
        .is("widest(0, 1)", 25).go("place(0, 45, 5, 1)").is("widest(0, 0)", 1).is("widest(0, 1)", 20)
        .go("place(0, 0, 1, 1)").is("widest(0, 0)", 2).is("widest(0, 1)", 20).go("place(0, 25, 1, 1)").is("widest(0, 0)", 1)
        .is("widest(0, 1)", 19).go("place(3, 900000000, 1, 1)").is("widest(3, 1)", 900000000);
  }

  static void promise47_none() {
    Script.on(47, "NONE, 0: there is none wider than 0").is("widest(0, 0)", -1).is("widest(0, 1)", 0)
        .go("place(0, 0, 5, 1)", "place(0, 5, 5, 1)", "lack(2)").is("widest(0, 0)", -1).is("widest(0, 1)", 0).is("widest(2, 0)", -1)
        .is("widest(2, 1)", 0).go("place(1, 1, 5, 1)").is("widest(1, 0)", 2).is("widest(1, 1)", 1);
  }

  static void promise47_refused() {
    rich(47, WRONG).bounds("widest(#, 0)", 0, 11).bounds("widest(0, #)", 0, 1).bounds("widest(11, #)", 0, 1).is("status(1)", 12);
  }

  // ---- promise 48

  static void promise48_strongest() {
    Script.on(48, "The YEAR whose LAYERS have most LEFT together (what 0), of alike ones the first, how much that is (1)")
        .go("place(11, 0, 10, 2)").is("strongest(0)", 11).is("strongest(1)", 20).go("place(4, 0, 10, 1)", "place(4, 99, 9, 1)")
        .is("strongest(0)", 11).go("place(4, 200, 1, 1)").is("strongest(0)", 4).is("strongest(1)", 20).go("harm(4, 4, 4, 1)")
        .is("strongest(0)", 11).is("strongest(1)", 20).go("harm(11, 11, 11, 2)").is("strongest(0)", 4).is("strongest(1)", 19);
  }

  static void promise48_nothing() {
    Script.on(48, "NONE, 0: all have nothing").is("strongest(0)", -1).is("strongest(1)", 0).go("place(0, 0, 3, 1)", "place(1, 0, 3, 1)")
        .is("strongest(0)", 0).go("harm(0, 1, 1, 5)").is("strongest(0)", 1).is("strongest(1)", 1).go("grow(0, 1)", "grow(0, 1)")
        .is("strongest(0)", 1).is("back()", 4).is("back()", 3).go("grow(0, 2)").is("strongest(0)", -1).is("strongest(1)", 0);
  }

  static void promise48_refused() {
    Script.on(48, WRONG).bounds("strongest(#)", 0, 1).go(Desks.RICH).bounds("strongest(#)", 0, 1).is("status(1)", 8);
  }

  // ---- promise 49

  static void promise49_holds() {
    Script.on(49, "How many tenths an INSURER SIGNED of what lies at a height (0 to 1,000,000,000) of a YEAR")
        .go("place(0, 10, 5, 1)", "place(0, 15, 5, 1)", "place(3, 900000000, 100000000, 1)", "sign(0, 0, 1)", "sign(0, 9, 3)", "sign(1, 9, 10)",
            "sign(2, 5, 7)")
        .is("holds(0, 0, 10)", 1).is("holds(9, 0, 10)", 3).is("holds(9, 0, 14)", 3).is("holds(9, 0, 15)", 10).is("holds(9, 0, 19)", 10)
        .is("holds(5, 3, 999999999)", 7).is("holds(5, 3, 900000000)", 7).go("settle(9, 1)").is("holds(9, 0, 15)", 10);
  }

  static void promise49_noLayer() {
    Script.on(49, "(0, if there is no LAYER)").is("holds(0, 0, 0)", 0).go("place(0, 10, 5, 1)", "sign(0, 9, 3)", "lack(1)")
        .is("holds(9, 0, 9)", 0).is("holds(9, 0, 15)", 0).is("holds(9, 0, 1000000000)", 0).is("holds(9, 1, 12)", 0).is("holds(9, 2, 12)", 0)
        .is("holds(8, 0, 12)", 0);
  }

  static void promise49_refused() {
    rich(49, WRONG).bounds("holds(#, 0, 5)", 0, 9).bounds("holds(1, #, 5)", 0, 11).bounds("holds(1, 0, #)", 0, 1000000000).is("status(1)", 12);
  }

  // ---- promise 50

  static void promise50_bits() {
    Script s = Script.on(50, "LAYERS (bits) that are used up.").is("spent()", 0).go(Desks.layers(40)).is("spent()", 0)
        .go("harm(6, 6, 6, 39)").is("spent()", 7L << 36).go("grow(0, 1)").is("spent()", 15L << 36).go("harm(0, 0, 0, 10)")
        .is("spent()", (15L << 36) + 1).go("harm(5, 5, 5, 20)").is("spent()", (15L << 36) + 1 + (3L << 30));
    s.is("back()", 43).is("spent()", (15L << 36) + 1);
    Script all = new Script("promise 50: all of them").go(Desks.layers(40));
    for (int y = 0; y < 7; y++) all.go("harm(" + y + ", " + y + ", " + y + ", 60)");
    all.is("spent()", (1L << 40) - 1).is("told(0)", 40);
  }

  // ---- promise 51

  static void promise51_refused() {
    Script.on(51, "How many calls were refused: 0 NoSuchElementException, 1 IllegalArgumentException, 2 IllegalStateException")
        .is("status(0)", 0).is("status(1)", 0).is("status(2)", 0).missing("layer(0, 0)").is("status(0)", 1).is("status(1)", 0)
        .wrong("told(11)").is("status(1)", 1).is("status(0)", 1).go("lack(0)").unfit("lack(0)").is("status(2)", 1).is("status(1)", 1)
        .missing("layer(0, 11)").missing("sign(0, 10, 11)").is("status(0)", 3).is("status(1)", 1)
        .is("back()", 0).is("back()", -1).is("status(0)", 3).is("status(1)", 1).is("status(2)", 1);
  }

  static void promise51_notRefused() {
    new Script("promise 51: what is answered is not refused, whatever it answers").is("back()", -1).is("rules(0, 0, 0)", 0).is("at(0, 0)", -2)
        .is("rung(0, 0)", -1).is("picks(0, 0, 0, 0)", -1).is("heaviest(0, 0)", -1).is("strongest(0)", -1).is("widest(0, 0)", -1)
        .is("year(0, 1)", -1).go("place(0, 0, 1, 1)").is("signed(0, 0, 0)", -1).is("usedUp(0)", -1).is("status(9)", -1)
        .is("undone(0)", 0).is("status(0)", 0).is("status(1)", 0).is("status(2)", 0);
  }

  static void promise51_goneOverIsNotRefused() {
    // Gone over without the place, sign() can't be done; that is no call.
    new Script("promise 51: what is left out when gone over")
        .go("place(0, 0, 9, 1)", "sign(0, 1, 1)", "harm(0, 0, 0, 1)", "grow(0, 1)", "settle(1, 1)")
        .is("undone(0)", 1).is("without(0, 0)", 2).is("undone(2)", 1).is("shift(2, 5, 0)", 1).is("spared(1)", -1).is("heaviest(0, 1)", 0)
        .is("best(0, 3)", 1 + 1).is("usedUp(0)", -1).is("status(0)", 0).is("status(1)", 0).is("status(2)", 0);
  }

  static void promise51_noneForOthers() {
    Script.on(51, "NONE for others").is("status(3)", -1).is("status(-1)", -1).is("status(2147483647)", -1).is("status(-2147483648)", -1)
        .missing("layer(0, 0)").wrong("told(11)").is("status(3)", -1).is("status(-1)", -1).is("status(1)", 1);
  }
}
