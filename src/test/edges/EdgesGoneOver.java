/** Promises 35 to 43, sentence by sentence: what another course of events would have come to. */
final class EdgesGoneOver {
  private static final String BOTH = "throws NoSuchElementException, IllegalArgumentException";
  private static final String WRONG = "throws IllegalArgumentException";
  private static final String MISSING = "throws NoSuchElementException";

  private static Script rich(int promise, String sentence) {
    return Script.on(promise, sentence).go(Desks.RICH);
  }

  // ---- promise 35

  static void promise35_other() {
    Script.on(35, "GONE OVER by told RULES: what an INSURER BEARS.").is("other(0, 0, 0, 0)", 0).is("other(3, 3, 3, 9)", 0)
        .go("place(0, 0, 10, 1)", "place(1, 0, 30, 1)", "sign(0, 1, 10)", "sign(1, 9, 10)", "harm(0, 0, 1, 16)", "rules(1, 0, 0)", "harm(0, 0, 1, 4)")
        .is("insurer(1, 0)", 10).is("insurer(9, 0)", 4).is("insurer(0, 0)", 6)
        .is("other(0, 0, 0, 1)", 10).is("other(0, 0, 0, 0)", 10).is("other(1, 0, 0, 9)", 20).is("other(1, 0, 0, 1)", 0)
        .is("other(2, 0, 0, 1)", 10).is("other(2, 0, 0, 9)", 8 + 2)
        // By sizes: 16 is 4 and 12, 4 is 1 and 3. By level: 16 is 8 and 8, 4 is 2 and 2.
        .is("other(2, 1, 0, 1)", 5).is("other(2, 1, 0, 9)", 15).is("other(2, 3, 3, 1)", 10).is("other(3, 3, 0, 9)", 10);
  }

  static void promise35_refused() {
    rich(35, WRONG).bounds("other(#, 0, 0, 0)", 0, 3).bounds("other(0, #, 0, 0)", 0, 3).bounds("other(0, 0, #, 0)", 0, 3)
        .bounds("other(0, 0, 0, #)", 0, 9).is("status(1)", 16);
    Script.on(35, WRONG).bounds("other(0, 0, 0, #)", 0, 9).bounds("other(#, 3, 3, 9)", 0, 3);
  }

  // ---- promise 36

  static void promise36_first() {
    Script s = Script.on(36, "Of all RULES (by TRIGGER, SPREAD, PICK in order) the first ones by which, GONE OVER, an INSURER BEARS least");
    s.go("rules(3, 3, 3)").is("best(0, 0)", 0).is("best(0, 1)", 0).is("best(0, 2)", 0).is("best(0, 3)", 0)
        .go("place(0, 0, 10, 1)", "place(1, 0, 90, 1)", "sign(0, 1, 10)", "sign(1, 9, 10)", "harm(0, 1, 1, 40)")
        // The insured bears 10 by (0, 0, 0), and nothing first by (0, 1, 0).
        .is("best(0, 0)", 0).is("best(0, 1)", 1).is("best(0, 2)", 0).is("best(0, 3)", 0)
        // Insurer 1 bears 10 and 4 by TRIGGER 0, nothing first by (1, 0, 0); 9 bears 20 first by (0, 0, 0).
        .is("best(1, 0)", 1).is("best(1, 1)", 0).is("best(1, 2)", 0).is("best(1, 3)", 0)
        .is("best(9, 0)", 0).is("best(9, 1)", 0).is("best(9, 2)", 0).is("best(9, 3)", 20);
  }

  static void promise36_last() {
    // One pays to the full what is nobody's debt: by the latest first that is year 1, by the earliest first year 0.
    Script.on(36, "0 TRIGGER, 1 SPREAD, 2 PICK, 3 what it BEARS so").go("place(0, 5, 10, 1)", "place(1, 0, 4, 1)", "place(1, 8, 20, 1)",
        "sign(0, 1, 10)", "sign(1, 2, 10)", "sign(2, 3, 10)", "harm(0, 1, 1, 8)")
        // Alike: 4 in the hole; 4 of layer 1. In turn by room: year 1: 4 and 4 in its hole. By the earliest: 5 in the hole, 3; fair 0 and 4.
        .is("other(0, 0, 0, 0)", 4).is("other(0, 2, 0, 0)", 4).is("other(0, 2, 1, 0)", 4).is("other(0, 2, 2, 0)", 4).is("other(0, 2, 3, 0)", 5)
        // Of 4 that are fair insurer 2 bears but the 3 that are paid in excess.
        .is("best(2, 0)", 0).is("best(2, 1)", 2).is("best(2, 2)", 3).is("best(2, 3)", 3).is("other(0, 1, 0, 2)", 4);
  }

  static void promise36_byPick() {
    new Script("promise 36: a PICK that is not the first").go("place(0, 0, 10, 1)", "place(1, 5, 20, 1)", "sign(0, 1, 10)", "sign(1, 2, 10)",
        "harm(0, 1, 1, 10)").is("best(0, 0)", 0).is("best(0, 1)", 2).is("best(0, 2)", 2).is("best(0, 3)", 0);
  }

  static void promise36_bySpread3() {
    // Alike 3 of a gap, 3 and 3, of which nothing is signed; in turn 6 and 3, by level 5 and 4: 1 and 1 are signed of these.
    new Script("promise 36: SPREAD 3 alone").go("place(1, 0, 6, 1)", "place(2, 0, 6, 1)", "sign(0, 2, 3)", "sign(1, 2, 3)", "harm(0, 2, 2, 9)")
        .is("other(0, 0, 0, 0)", 9).is("other(0, 2, 0, 0)", 8).is("other(0, 2, 3, 0)", 8).is("other(1, 3, 0, 0)", 8)
        .is("best(0, 0)", 0).is("best(0, 1)", 3).is("best(0, 2)", 0).is("best(0, 3)", 7);
  }

  static void promise36_byTrigger3() {
    // Over years 0 and 2, the most room first: 5 in the hole, 6, and 1. By sizes one is above; year 1 would have a hole, too.
    new Script("promise 36: TRIGGER 3 alone").go("place(0, 0, 1, 1)", "place(1, 1, 5, 1)", "place(2, 5, 6, 1)", "sign(0, 1, 10)",
        "sign(1, 2, 10)", "sign(2, 3, 10)", "harm(0, 0, 2, 12)").is("other(3, 0, 0, 0)", 10).is("other(3, 1, 0, 0)", 6)
        .is("other(2, 2, 0, 0)", 6).is("best(0, 0)", 3).is("best(0, 1)", 2).is("best(0, 2)", 0).is("best(0, 3)", 5);
  }

  static void promise36_refused() {
    rich(36, WRONG).bounds("best(#, 3)", 0, 9).bounds("best(0, #)", 0, 3).bounds("best(9, #)", 0, 3).is("status(1)", 12);
    Script.on(36, WRONG).bounds("best(#, 0)", 0, 9).bounds("best(0, #)", 0, 3);
  }

  // ---- promise 37

  static void promise37_without() {
    Script.on(37, "GONE OVER without an EVENT: what an INSURER BEARS.")
        .go("place(0, 0, 10, 1)", "sign(0, 9, 10)", "harm(0, 0, 0, 8)", "harm(0, 0, 0, 8)", "fall(9)", "grow(0, 1)")
        .is("insurer(9, 0)", 10).is("without(0, 9)", 0).is("without(0, 0)", 17).is("without(1, 9)", 0).is("without(2, 9)", 8)
        .is("without(2, 0)", 0).is("without(3, 9)", 8).is("without(3, 0)", 1).is("without(4, 9)", 10).is("without(4, 0)", 7)
        .is("without(5, 0)", 6).is("without(5, 1)", 0);
  }

  static void promise37_refused() {
    Script.on(37, BOTH).numbers("without(#, 0)", 0).go(Desks.RICH).numbers("without(#, 0)", Desks.EVENTS).bounds("without(0, #)", 0, 9)
        .bounds("without(17, #)", 0, 9).missing("without(18, 10)").missing("without(-1, -1)");
  }

  // ---- promise 38

  static void promise38_others() {
    Script.on(38, "GONE OVER without an EVENT: how many other EVENTS can't be done")
        .go("place(0, 0, 10, 1)").is("undone(0)", 0).go("sign(0, 1, 1)", "sign(0, 2, 1)", "sign(0, 3, 1)", "sign(0, 4, 1)").is("undone(0)", 4)
        .is("undone(1)", 0).is("undone(4)", 0).go("harm(0, 0, 0, 1)", "grow(0, 1)", "reopen(0)", "grow(0, 1)").is("undone(5)", 3)
        .is("undone(8)", 0).is("undone(0)", 4).go("lack(5)", "settle(1, 1)", "fall(2)").is("undone(9)", 0).is("undone(10)", 0)
        .is("undone(11)", 0);
  }

  static void promise38_rulesAlwaysCan() {
    // Without the first one the second one would change nothing: it is done all the same.
    Script.on(38, "(rules() always can)").go("rules(1, 0, 0)", "rules(0, 0, 0)", "rules(1, 0, 0)").is("undone(0)", 0).is("undone(1)", 0)
        .is("undone(2)", 0).go("place(0, 0, 10, 1)").is("undone(3)", 0).is("undone(0)", 0);
  }

  static void promise38_full() {
    new Script("promise 38: all but one").go("harm(0, 0, 0, 1)").go(Desks.times(159, "grow(0, 1)")).is("undone(0)", 159).is("undone(159)", 0)
        .is("without(0, 0)", 0).is("without(159, 0)", 159).is("shift(0, 160, 0)", 1).is("shift(0, 159, 0)", 2).missing("undone(160)");
  }

  static void promise38_refused() {
    Script.on(38, MISSING).numbers("undone(#)", 0).go(Desks.RICH).numbers("undone(#)", Desks.EVENTS).is("status(0)", 8).is("back()", 17)
        .missing("undone(17)");
  }

  // ---- promise 39

  static void promise39_spared() {
    Script.on(39, "Of a SETTLED INSURER (1 to 9): what it would BEAR more, GONE OVER without that EVENT, less CASH")
        .go("place(0, 0, 10, 4)", "sign(0, 1, 5)", "sign(0, 9, 5)", "harm(0, 0, 0, 4)", "settle(1, 3)", "settle(9, 0)", "harm(0, 0, 0, 10)")
        .is("spared(1)", 5 - 3).is("spared(9)", 5).go("reopen(0)").is("spared(1)", 7 - 3).is("spared(9)", 7)
        .go("settle(5, 1000000000)").is("spared(5)", -1000000000);
  }

  static void promise39_firstEvent() {
    new Script("promise 39: settled ahead of all").go("settle(1, 3)", "place(0, 0, 10, 4)", "sign(0, 1, 5)", "harm(0, 0, 0, 10)")
        .is("insurer(1, 0)", 0).is("spared(1)", 5 - 3).is("back()", 3).is("spared(1)", -3);
  }

  static void promise39_notSettled() {
    Script.on(39, "0 of one that is not SETTLED").is("spared(1)", 0).is("spared(9)", 0)
        .go("place(0, 0, 10, 4)", "sign(0, 1, 5)", "sign(0, 2, 5)", "harm(0, 0, 0, 4)", "fall(2)", "harm(0, 0, 0, 4)")
        .is("spared(1)", 0).is("spared(2)", 0).go("settle(1, 7)").is("spared(1)", -7).is("back()", 6).is("spared(1)", 0);
  }

  static void promise39_refused() {
    Script.on(39, WRONG).bounds("spared(#)", 1, 9).go(Desks.RICH).bounds("spared(#)", 1, 9).is("status(1)", 8).is("status(0)", 0);
  }

  // ---- promise 40

  static void promise40_rightAhead() {
    Script.on(40, "GONE OVER, but an EVENT is done right ahead of another one")
        .go("place(0, 0, 10, 4)", "sign(0, 1, 10)", "harm(0, 0, 0, 3)", "harm(0, 0, 0, 4)", "fall(1)", "harm(0, 0, 0, 5)")
        .is("insurer(1, 0)", 7).is("shift(4, 2, 1)", 0).is("shift(4, 3, 1)", 3).is("shift(4, 4, 1)", 7).is("shift(4, 5, 1)", 7)
        .is("shift(2, 3, 1)", 7).is("shift(2, 4, 1)", 7).is("shift(2, 5, 1)", 4).is("shift(5, 4, 1)", 12).is("shift(5, 5, 1)", 7)
        .is("shift(0, 0, 1)", 7).is("shift(0, 1, 1)", 7).is("shift(0, 2, 1)", 0).is("shift(1, 1, 1)", 7).is("shift(1, 0, 1)", 0);
  }

  static void promise40_behindAll() {
    Script.on(40, "(0 up to how many EVENTS there are: behind all), not where it was: what an INSURER BEARS")
        .go("place(0, 0, 10, 4)", "sign(0, 1, 10)", "fall(1)", "harm(0, 0, 0, 5)").is("shift(2, 3, 1)", 0).is("shift(2, 4, 1)", 5)
        .is("shift(2, 0, 1)", 0).is("shift(3, 4, 1)", 0).is("shift(3, 0, 0)", 5).is("shift(3, 2, 1)", 5).is("shift(0, 4, 0)", 5)
        .bounds("shift(2, #, 1)", 0, 4).bounds("shift(0, #, 0)", 0, 4).bounds("shift(3, #, 9)", 0, 4);
  }

  static void promise40_refused() {
    Script.on(40, BOTH).numbers("shift(#, 0, 0)", 0).go(Desks.RICH).numbers("shift(#, 0, 0)", Desks.EVENTS)
        .bounds("shift(3, #, 0)", 0, Desks.EVENTS).bounds("shift(3, 0, #)", 0, 9).missing("shift(18, 19, 0)").missing("shift(-1, -1, 10)")
        .missing("shift(18, 0, 10)").wrong("shift(17, 19, 10)");
  }

  // ---- promise 41

  static void promise41_after() {
    Script.on(41, "What an INSURER BORE right behind an EVENT.")
        .go("place(0, 0, 10, 4)", "sign(0, 9, 5)", "harm(0, 0, 0, 4)", "grow(0, 2)", "fall(9)", "reopen(0)")
        .is("after(0, 0)", 0).is("after(1, 9)", 0).is("after(2, 9)", 2).is("after(2, 0)", 2).is("after(3, 9)", 3).is("after(3, 0)", 3)
        .is("after(4, 9)", 3).is("after(5, 9)", 0).is("after(5, 0)", 6);
  }

  static void promise41_refused() {
    Script.on(41, BOTH).numbers("after(#, 0)", 0).go(Desks.RICH).numbers("after(#, 0)", Desks.EVENTS).bounds("after(0, #)", 0, 9)
        .bounds("after(17, #)", 0, 9).missing("after(18, 10)").missing("after(-1, -1)");
  }

  // ---- promise 42

  static void promise42_first() {
    Script.on(42, "The EVENT right behind which a LAYER was used up first")
        .go("place(0, 0, 10, 2)", "place(1, 0, 10, 1)", "harm(0, 0, 1, 10)", "harm(0, 0, 1, 9)").is("usedUp(0)", -1)
        .go("grow(1, 1)").is("usedUp(0)", 4).is("layer(0, 10)", 1)
        // Given back by reopen() it is not used up, but it was; used up again, the first time counts.
        .go("rules(1, 0, 0)", "reopen(1)").is("layer(0, 10)", 0).is("usedUp(0)", 4).is("usedUp(1)", 6)
        .go("rules(0, 0, 0)", "reopen(1)").is("usedUp(0)", 4).is("layer(1, 10)", 0).is("usedUp(1)", 6);
  }

  static void promise42_none() {
    Script.on(42, "NONE: behind none").go("place(0, 0, 10, 1)").is("usedUp(0)", -1).go("harm(0, 0, 0, 9)").is("usedUp(0)", -1)
        .go("grow(0, 1)").is("usedUp(0)", 2).is("back()", 2).is("usedUp(0)", -1);
  }

  static void promise42_refused() {
    Script.on(42, MISSING).numbers("usedUp(#)", 0).go(Desks.RICH).numbers("usedUp(#)", Desks.LAYERS).is("status(0)", 8);
  }

  // ---- promise 43

  static void promise43_least() {
    Script.on(43, "that without which an INSURER BEARS least (what 0), of alike ones the first, what it BEARS so (1)")
        .go("place(0, 0, 10, 4)", "sign(0, 1, 10)", "harm(0, 0, 0, 3)", "harm(0, 0, 0, 5)", "harm(0, 0, 0, 5)")
        .is("heaviest(1, 0)", 1).is("heaviest(1, 1)", 8).is("heaviest(9, 0)", 0).is("heaviest(9, 1)", 0)
        .go("grow(0, 3)").is("heaviest(1, 0)", 0).is("heaviest(1, 1)", 10).go("fall(1)", "reopen(0)").is("heaviest(1, 0)", 1)
        .is("heaviest(1, 1)", 5).is("heaviest(0, 0)", 0).is("heaviest(0, 1)", 0);
  }

  static void promise43_allEventsOfOne() {
    // Without harm 0 layer 0 is not used up ahead: harm 1, which finds it so, bears on.
    Script.on(43, "Of HARMS, GONE OVER without all EVENTS of one (harm(), grow(), reopen())")
        .go("place(0, 0, 10, 1)", "sign(0, 1, 10)", "harm(0, 0, 0, 4)", "harm(0, 0, 0, 10)", "grow(0, 6)", "reopen(1)", "reopen(0)")
        .is("insurer(1, 0)", 10).is("heaviest(1, 0)", 0).is("heaviest(1, 1)", 10).is("heaviest(0, 0)", 0).is("heaviest(0, 1)", 0)
        .is("back()", 6).is("back()", 5).is("heaviest(0, 1)", 0);
  }

  static void promise43_firstEvent() {
    new Script("promise 43: a harm ahead of all").go("harm(3, 3, 3, 4)", "place(0, 0, 10, 1)", "harm(0, 0, 0, 3)").is("heaviest(0, 0)", 0)
        .is("heaviest(0, 1)", 3).go("grow(1, 2)").is("heaviest(0, 0)", 1).is("heaviest(0, 1)", 4);
  }

  static void promise43_twentyFour() {
    Script s = new Script("promise 43: the last of 24 harms").go("place(0, 0, 10, 4)").go(Desks.times(23, "harm(0, 0, 0, 1)"))
        .go("harm(0, 0, 0, 2)").is("heaviest(0, 0)", 23).is("heaviest(0, 1)", 23).is("insurer(0, 0)", 25).is("rank(0)", 0);
    s.is("without(24, 0)", 23).is("undone(24)", 0).is("after(24, 0)", 25).is("after(23, 0)", 23);
  }

  static void promise43_noHarms() {
    Script.on(43, "NONE, 0: there are no HARMS.").is("heaviest(0, 0)", -1).is("heaviest(0, 1)", 0).is("heaviest(9, 0)", -1)
        .is("heaviest(9, 1)", 0).go("place(0, 0, 9, 1)", "harm(0, 0, 0, 1)").is("heaviest(0, 0)", 0).is("heaviest(0, 1)", 0)
        .is("back()", 1).is("heaviest(0, 0)", -1).is("heaviest(0, 1)", 0);
  }

  static void promise43_refused() {
    Script.on(43, WRONG).bounds("heaviest(#, 0)", 0, 9).bounds("heaviest(0, #)", 0, 1).go(Desks.RICH).bounds("heaviest(#, 1)", 0, 9)
        .bounds("heaviest(9, #)", 0, 1).is("status(1)", 16);
  }
}
