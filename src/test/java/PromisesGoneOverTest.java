/** Promises 35 to 43: what another course of events would have come to. */
public final class PromisesGoneOverTest {
  public static void main(String[] args) {
    other();
    best();
    without();
    undone();
    numbersStay();
    spared();
    shift();
    after();
    usedUp();
    heaviest();
    Script.end("PromisesGoneOverTest");
  }

  private static Script threeTowers(String title) {
    return new Script(title).go("place(0, 0, 100, 1)", "place(1, 0, 100, 1)", "place(2, 0, 300, 1)",
        "sign(0, 1, 10)", "sign(1, 2, 10)", "sign(2, 3, 10)");
  }

  private static void other() {
    threeTowers("promise 35: told rules hold from the first on")
        .go("rules(1, 0, 0)", "harm(0, 1, 2, 120)", "rules(0, 0, 0)", "harm(0, 1, 2, 60)")
        .is("insurer(3, 0)", 120).is("insurer(1, 0)", 30).is("insurer(2, 0)", 30)
        .is("other(0, 0, 0, 1)", 90).is("other(0, 0, 0, 2)", 90).is("other(0, 0, 0, 3)", 0)
        .is("other(1, 0, 0, 3)", 180).is("other(2, 0, 0, 3)", 60).is("other(3, 0, 0, 1)", 60)
        // To the full in one tower: the most room first is year 2; then each layer has what is fair.
        .is("other(2, 2, 0, 3)", 60).is("other(1, 3, 3, 0)", 0).is("other(0, 1, 0, 2)", 90)
        .wrong("other(4, 0, 0, 0)").wrong("other(-1, 0, 0, 0)").wrong("other(0, 4, 0, 0)").wrong("other(0, -1, 0, 0)")
        .wrong("other(0, 0, 4, 0)").wrong("other(0, 0, -1, 0)").wrong("other(0, 0, 0, 10)").wrong("other(0, 0, 0, -1)")
        .is("told(2)", 10).is("insurer(3, 0)", 120);
    new Script("promise 35: reopen() is done by told rules, too")
        .go("place(0, 0, 100, 1)", "place(1, 0, 100, 1)", "sign(0, 1, 10)", "harm(0, 0, 1, 50)", "rules(1, 0, 0)",
            "reopen(0)", "grow(0, 7)")
        .is("insurer(1, 0)", 0).is("other(0, 0, 0, 1)", 57).is("other(1, 2, 0, 1)", 0).is("other(2, 0, 0, 1)", 29);
  }

  private static void best() {
    threeTowers("promise 36: the first of those by which one bears least")
        .go("harm(0, 1, 2, 120)")
        .is("best(1, 0)", 1).is("best(1, 1)", 0).is("best(1, 2)", 0).is("best(1, 3)", 0)
        .is("best(3, 0)", 0).is("best(3, 1)", 0).is("best(3, 2)", 0).is("best(3, 3)", 0)
        .is("best(0, 0)", 0).is("best(0, 3)", 0)
        .wrong("best(10, 0)").wrong("best(-1, 0)").wrong("best(0, 4)").wrong("best(0, -1)");
    new Script("promise 36: by SPREAD 1")
        .go("place(0, 0, 10, 1)", "place(1, 0, 90, 1)", "sign(0, 1, 10)", "sign(1, 2, 10)", "harm(0, 1, 1, 50)", "rules(0, 0, 2)")
        // By TRIGGER 0: alike 10 and 25 (15 above), by sizes 5 and 45. By TRIGGER 1: 0 and 50.
        .is("best(0, 0)", 0).is("best(0, 1)", 1).is("best(0, 2)", 0).is("best(0, 3)", 0)
        .is("best(1, 0)", 1).is("best(1, 3)", 0).is("best(2, 0)", 0).is("best(2, 1)", 0).is("best(2, 3)", 25);
    // In turn over two years, without debts: the tower that is filled first pays all.
    new Script("promise 36: by PICK")
        .go("place(0, 0, 10, 1)", "place(1, 5, 20, 1)", "sign(0, 1, 10)", "sign(1, 2, 10)", "harm(0, 1, 1, 10)")
        // By SPREAD 0: 5, and 0 (5 in the hole). In turn by PICK 0: year 1 first: 5 of insurer 2; fair 5 and 0: all moves.
        // By PICK 2: year 0 first: 10 of insurer 1, fair is 5, no debt: the insured bears nothing.
        .is("best(0, 0)", 0).is("best(0, 1)", 2).is("best(0, 2)", 2).is("best(0, 3)", 0)
        .is("other(0, 2, 0, 0)", 5).is("other(0, 2, 0, 1)", 5).is("other(0, 2, 1, 1)", 5).is("other(0, 2, 2, 1)", 10);
    new Script("promise 36: without harms all are alike").go("rules(3, 3, 3)")
        .is("best(5, 0)", 0).is("best(5, 1)", 0).is("best(5, 2)", 0).is("best(5, 3)", 0);
  }

  private static void without() {
    new Script("promise 37")
        .go("place(0, 0, 100, 1)", "sign(0, 1, 10)", "harm(0, 0, 0, 80)", "harm(0, 0, 0, 80)", "rules(1, 0, 0)",
            "harm(0, 0, 1, 5)", "fall(1)", "reopen(1)")
        .is("insurer(1, 0)", 80).is("insurer(0, 0)", 60 + 20 + 5)
        .is("without(0, 0)", 165).is("without(0, 1)", 0).is("without(1, 1)", 0).is("without(2, 1)", 0)
        .is("without(2, 0)", 85).is("without(3, 1)", 80).is("without(3, 0)", 5).is("without(4, 1)", 80)
        // Without rules() the third harm finds the layer used up; then the second one is reopened.
        .is("without(4, 0)", 85).is("without(5, 0)", 80).is("without(6, 1)", 100).is("without(7, 1)", 100)
        .missing("without(8, 0)").missing("without(-1, 10)").wrong("without(0, 10)").wrong("without(0, -1)").is("told(2)", 8);
  }

  private static void undone() {
    new Script("promise 38")
        .go("place(0, 0, 100, 1)", "sign(0, 1, 10)", "place(1, 0, 5, 1)", "harm(0, 0, 0, 80)", "grow(0, 1)", "reopen(0)",
            "rules(1, 0, 0)", "rules(0, 0, 0)", "fall(2)", "lack(4)")
        .is("undone(0)", 1).is("undone(1)", 0).is("undone(2)", 0).is("undone(3)", 2).is("undone(4)", 0).is("undone(5)", 0)
        .is("undone(6)", 0).is("undone(7)", 0).is("undone(8)", 0).is("undone(9)", 0)
        .missing("undone(10)").missing("undone(-1)").is("status(0)", 2);
    new Script("promise 38: what was given back by reopen() is used without it")
        .go("place(0, 0, 100, 1)", "place(1, 0, 100, 1)", "harm(0, 0, 1, 50)", "rules(1, 0, 0)", "reopen(0)", "sign(0, 1, 1)")
        .is("undone(4)", 1).is("undone(3)", 1).is("undone(2)", 1).is("undone(0)", 1);
  }

  private static void numbersStay() {
    new Script("layers and harms keep their numbers")
        .go("place(0, 0, 10, 1)", "place(1, 0, 20, 1)", "sign(1, 3, 10)", "harm(0, 0, 0, 5)", "harm(1, 1, 1, 7)", "grow(1, 2)")
        .is("without(0, 3)", 9).is("undone(0)", 0).is("without(3, 3)", 9).is("undone(3)", 0).is("without(4, 3)", 0);
  }

  private static void spared() {
    new Script("promise 39")
        .go("place(0, 0, 100, 1)", "sign(0, 1, 10)", "harm(0, 0, 0, 10)", "settle(1, 25)", "grow(0, 40)", "settle(2, 3)", "fall(3)")
        .is("spared(1)", 40 - 25).is("spared(2)", -3).is("spared(3)", 0).is("spared(4)", 0)
        .go("reopen(0)").is("insurer(1, 0)", 0).is("spared(1)", 50 - 25)
        .wrong("spared(0)").wrong("spared(10)").wrong("spared(-1)");
  }

  private static void shift() {
    new Script("promise 40")
        .go("place(0, 0, 100, 1)", "sign(0, 1, 10)", "harm(0, 0, 0, 80)", "fall(1)", "harm(0, 0, 0, 80)")
        .is("shift(3, 2, 1)", 0).is("shift(3, 3, 1)", 80).is("shift(3, 4, 1)", 80).is("shift(3, 5, 1)", 100)
        .is("shift(3, 0, 1)", 0).is("shift(2, 5, 1)", 0).is("shift(2, 4, 1)", 0).is("shift(4, 2, 1)", 100)
        // Signed behind the harm: it took something; ahead of the layer: there is none.
        .is("shift(1, 3, 1)", 0).is("shift(1, 0, 1)", 0).is("shift(1, 3, 0)", 160).is("shift(0, 1, 1)", 80)
        .is("shift(0, 2, 1)", 0).is("shift(0, 5, 0)", 160)
        .missing("shift(5, 0, 0)").missing("shift(-1, 9, 10)").wrong("shift(0, 6, 0)").wrong("shift(0, -1, 0)")
        .wrong("shift(0, 0, 10)").wrong("shift(0, 0, -1)");
  }

  private static void after() {
    new Script("promise 41")
        .go("place(0, 0, 100, 1)", "sign(0, 1, 5)", "harm(0, 0, 0, 10)", "grow(0, 10)", "fall(1)", "reopen(0)", "grow(0, 1)")
        .is("after(0, 0)", 0).is("after(1, 1)", 0).is("after(2, 1)", 5).is("after(2, 0)", 5).is("after(3, 1)", 10)
        .is("after(4, 1)", 10).is("after(5, 1)", 0).is("after(5, 0)", 20).is("after(6, 0)", 21)
        .missing("after(7, 0)").missing("after(-1, 10)").wrong("after(0, 10)").wrong("after(0, -1)");
  }

  private static void usedUp() {
    new Script("promise 42")
        .go("place(0, 0, 10, 2)", "place(1, 0, 10, 1)", "place(2, 0, 10, 1)", "harm(0, 0, 1, 20)", "harm(0, 0, 1, 10)",
            "rules(1, 0, 0)", "reopen(1)", "rules(0, 0, 0)", "harm(0, 0, 0, 10)")
        .is("usedUp(0)", 4).is("usedUp(1)", 6).is("usedUp(2)", -1).is("layer(0, 10)", 1)
        .is("back()", 8).is("layer(0, 10)", 0).is("usedUp(0)", 4)
        .missing("usedUp(3)").missing("usedUp(-1)");
  }

  private static void heaviest() {
    new Script("promise 43")
        .go("place(0, 0, 100, 1)", "sign(0, 1, 10)", "harm(0, 0, 0, 80)", "harm(0, 0, 0, 80)", "harm(1, 1, 1, 500)",
            "harm(0, 0, 0, 10)", "grow(1, 10)", "reopen(0)")
        // Without the first: 80, 10, 10 of the second. Without the second: 80, 10. Without the third: all is full.
        .is("insurer(1, 0)", 100).is("heaviest(1, 0)", 1).is("heaviest(1, 1)", 90)
        .is("heaviest(0, 0)", 2).is("heaviest(0, 1)", 80).is("heaviest(5, 0)", 0).is("heaviest(5, 1)", 0)
        .wrong("heaviest(10, 0)").wrong("heaviest(-1, 0)").wrong("heaviest(0, 2)").wrong("heaviest(0, -1)");
    new Script("promise 43: no harms").go("place(0, 0, 1, 1)").is("heaviest(3, 0)", -1).is("heaviest(3, 1)", 0);
  }
}
