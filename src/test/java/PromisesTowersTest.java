/** Promises 44, 45 and 47 to 51: towers looked at, and refusals counted. */
public final class PromisesTowersTest {
  public static void main(String[] args) {
    cover();
    reach();
    widest();
    strongest();
    holds();
    spent();
    status();
    Script.end("PromisesTowersTest");
  }

  private static void cover() {
    new Script("promise 44")
        .go("place(0, 10, 10, 1)", "place(0, 30, 20, 1)", "place(0, 50, 5, 1)", "harm(0, 0, 0, 25)")
        .is("cover(0, 0, 1000000000)", 35).is("cover(0, 0, 10)", 0).is("cover(0, 10, 11)", 1).is("cover(0, 15, 35)", 10)
        .is("cover(0, 19, 31)", 2).is("cover(0, 20, 30)", 0).is("cover(0, 49, 51)", 2).is("cover(0, 12, 12)", 0)
        .is("cover(0, 54, 1000000000)", 1).is("cover(0, 55, 1000000000)", 0).is("cover(1, 0, 100)", 0)
        .is("cover(0, 1000000000, 1000000000)", 0)
        .wrong("cover(0, 11, 10)").wrong("cover(0, -1, 10)").wrong("cover(0, 0, 1000000001)").wrong("cover(12, 0, 1)")
        .wrong("cover(-1, 0, 1)").wrong("cover(0, -2, -1)");
    new Script("promise 44: great heights")
        .go("place(0, 900000000, 100000000, 4)").is("cover(0, 0, 1000000000)", 100000000).is("cover(0, 999999999, 1000000000)", 1);
  }

  private static void reach() {
    new Script("promise 45: for a new harm")
        .go("place(0, 10, 10, 2)", "place(0, 30, 20, 1)", "place(0, 50, 5, 1)", "place(1, 0, 7, 1)")
        .is("reach(0)", 11).is("reach(1)", 31).is("reach(2)", 51).is("reach(3)", 1)
        // A harm that went through holes and took 10 once leaves 10 for another one.
        .go("harm(0, 0, 0, 35)").is("reach(0)", 11).is("reach(1)", 31).is("reach(2)", 46)
        .go("harm(0, 0, 0, 18)").is("reach(1)", 23).is("reach(2)", 38)
        .go("harm(0, 0, 0, 100)").is("reach(0)", -1).is("reach(1)", -1).is("reach(2)", -1)
        .missing("reach(4)").missing("reach(-1)");
  }

  private static void widest() {
    new Script("promise 47")
        .go("place(0, 70, 10, 2)", "place(0, 10, 10, 1)", "place(0, 30, 10, 1)", "place(1, 0, 7, 1)", "place(1, 7, 7, 1)")
        .is("widest(0, 0)", 0).is("widest(0, 1)", 30).is("widest(1, 0)", -1).is("widest(1, 1)", 0)
        .is("widest(2, 0)", -1).is("widest(2, 1)", 0)
        // Now 10 each: the lowest of them is that of layer 1.
        .go("place(0, 50, 10, 1)").is("widest(0, 0)", 1).is("widest(0, 1)", 10)
        .wrong("widest(0, 2)").wrong("widest(0, -1)").wrong("widest(12, 0)").wrong("widest(-1, 0)");
  }

  private static void strongest() {
    new Script("promise 48")
        .is("strongest(0)", -1).is("strongest(1)", 0)
        .go("place(7, 0, 10, 2)", "place(3, 0, 15, 1)", "place(3, 15, 5, 1)").is("strongest(0)", 3).is("strongest(1)", 20)
        .go("harm(3, 3, 3, 1)").is("strongest(0)", 7).is("strongest(1)", 20)
        .go("harm(7, 7, 7, 10)", "harm(7, 7, 7, 10)", "harm(3, 3, 3, 19)").is("strongest(0)", -1).is("strongest(1)", 0)
        .wrong("strongest(2)").wrong("strongest(-1)");
    new Script("promise 48: beyond an int")
        .go("place(1, 0, 100000000, 4)", "place(1, 100000000, 100000000, 4)", "place(1, 200000000, 100000000, 4)",
            "place(1, 300000000, 100000000, 4)", "place(1, 400000000, 100000000, 4)", "place(1, 500000000, 100000000, 4)")
        .is("strongest(1)", 2400000000L).is("year(1, 6)", 2400000000L).is("year(1, 3)", 600000000);
  }

  private static void holds() {
    new Script("promise 49")
        .go("place(0, 10, 10, 1)", "place(0, 20, 10, 1)", "sign(0, 1, 3)", "sign(0, 0, 2)", "sign(1, 1, 7)", "fall(1)")
        .is("holds(1, 0, 9)", 0).is("holds(1, 0, 10)", 3).is("holds(0, 0, 19)", 2).is("holds(1, 0, 20)", 7)
        .is("holds(0, 0, 20)", 0).is("holds(1, 0, 30)", 0).is("holds(2, 0, 15)", 0).is("holds(1, 1, 15)", 0)
        .is("holds(1, 0, 1000000000)", 0)
        .wrong("holds(10, 0, 0)").wrong("holds(-1, 0, 0)").wrong("holds(0, 12, 0)").wrong("holds(0, -1, 0)")
        .wrong("holds(0, 0, -1)").wrong("holds(0, 0, 1000000001)");
  }

  private static void spent() {
    Script s = new Script("promise 50: bits above an int, too");
    for (int k = 0; k < 40; k++) s.go("place(" + k / 6 + ", " + 10 * (k % 6) + ", 10, 1)");
    s.is("spent()", 0).go("harm(6, 6, 6, 40)", "harm(0, 0, 0, 19)")
        .is("spent()", (1L << 36) | (1L << 37) | (1L << 38) | (1L << 39) | 1).is("back()", 41).is("spent()", 15L << 36);
  }

  private static void status() {
    new Script("promise 51")
        .is("status(0)", 0).is("status(1)", 0).is("status(2)", 0).is("status(3)", -1).is("status(-1)", -1)
        .is("status(2147483647)", -1).is("status(-2147483648)", -1)
        .missing("layer(0, 0)").missing("took(0, 0)").wrong("told(99)")
        .go("lack(3)").unfit("lack(3)").unfit("place(3, 0, 1, 1)").unfit("lack(3)")
        .is("status(0)", 2).is("status(1)", 1).is("status(2)", 3)
        // Neither back() nor what is asked about another course of events changes how many were refused.
        .is("undone(0)", 0).is("shift(0, 0, 0)", 0).is("back()", 0).is("back()", -1).is("rules(0, 0, 0)", 0)
        .is("status(0)", 2).is("status(1)", 1).is("status(2)", 3);
  }
}
