/** Promises 19 to 25: questions, by which nothing changes, and undo(). */
public final class QuestionsTest {
  private static final Check check = new Check("QuestionsTest");

  public static void main(String[] args) {
    outcome();
    races();
    raceByQuiet();
    hazards();
    limitOfEvents();
    stableStates();
    explain();
    explainBounce();
    undo();
    undoRestores();
    eachCallIsSaved();
    check.end();
  }

  private static void outcome() {
    RelayBank x = Check.bank(3, 2, 0, "a/B", "a/A");
    check.due("outcome(2, 1)", x.outcome(2, 1), -1);
    check.due("outcome(-1, 1)", x.outcome(-1, 1), -1);
    check.due("outcome(0, 0)", x.outcome(0, 0), -1);
    check.due("outcome(0, 201)", x.outcome(0, 201), -1);
    check.due("at rest", x.outcome(0, 1), 256);
    x.press(0, 1);
    int saved = x.count(9);
    check.due("normal", x.outcome(0, 200), 257);
    check.due("reverse", x.outcome(1, 200), 258);
    check.due("nothing happened", x.count(1), 0);
    check.due("nothing saved", x.count(9), saved);
    check.due("two wait", x.count(2), 2);
    RelayBank y = Check.bank(3, 2, 0, "a", "A");
    y.press(0, 1);
    check.due("one event", y.outcome(0, 1), 1);
    check.due("two events", y.outcome(0, 2), 259);
    check.due("two events, reverse", y.outcome(1, 2), 259);
    // Reverse order: the greatest relay first, but the smaller kind first of two for one relay.
    RelayBank z = Check.bank(2, 2, 2, "a", "a");
    z.press(0, 1);
    z.settle(2);
    z.press(0, 0);
    check.due("relay 0 releases first", z.outcome(0, 1), 2);
    check.due("relay 1 releases first", z.outcome(1, 1), 1);
    check.due("both", z.outcome(1, 2), 0);
  }

  private static void races() {
    RelayBank x = Check.bank(3, 2, 0, "a/B", "a/A");
    check.due("no race at rest", x.isRace(), 0);
    check.due("race by a", x.raceBy(0), 1);
    check.due("no race by b", x.raceBy(1), 0);
    check.due("raceBy(-1)", x.raceBy(-1), -1);
    check.due("raceBy(8)", x.raceBy(8), -1);
    check.due("no key pressed by it", x.count(3), 0);
    x.press(0, 1);
    check.due("race", x.isRace(), 1);
    check.due("a released again: none", x.raceBy(0), 0);
    check.due("race behind b too", x.raceBy(1), 1);
    check.due("two wait still", x.count(2), 2);
    x.setDelays(0, 4, 2, 0);
    check.due("the events stay", x.isRace(), 1);
    x.undo();
    x.undo();
    x.setDelays(0, 4, 2, 0);
    check.due("no race with other delays", x.raceBy(0), 0);
  }

  private static void raceByQuiet() {
    // Only one order gets quiet: if B is attracted first, it keeps A from its oscillation.
    RelayBank x = new RelayBank();
    x.addRelay(2, 2, 0);
    x.addRelay(2, 2, 0);
    Check.load(x, 0, "a/A/B");
    Check.load(x, 1, "a/A+B");
    x.press(0, 1);
    check.due("normal", x.outcome(0, 200), 0);
    check.due("reverse", x.outcome(1, 200), 258);
    check.due("race", x.isRace(), 1);
  }

  private static void hazards() {
    // C is fed by a or by A, which needs a while: between them it is not fed.
    RelayBank x = Check.bank(2, 2, 0, "/a", "a", "/a/B+B/A");
    x.settle(200);
    check.due("fed", x.count(4), 5);
    check.due("hazards(-1)", x.hazards(-1), -1);
    check.due("hazards(8)", x.hazards(8), -1);
    check.due("by a: behind the key", x.hazards(0), 4);
    check.due("by b: none", x.hazards(1), 0);
    check.due("nothing happened", x.count(3), 0);
    check.due("nothing happened", x.count(4), 5);
    x.press(0, 1);
    x.settle(200);
    check.due("fed", x.count(4), 6);
    check.due("back", x.hazards(0), 4);
    RelayBank y = Check.bank(1, 1, 0, "a/A", "/b");
    check.due("not quiet", y.hazards(0), -9);
    check.due("quiet by b", y.hazards(1), 0);
    check.due("wrong first", y.hazards(9), -1);
    // The contact of A bounces behind an event, not behind the key.
    RelayBank z = new RelayBank();
    z.addRelay(1, 1, 2);
    z.addRelay(5, 5, 0);
    Check.load(z, 0, "a");
    Check.load(z, 1, "/a+A");
    z.setFault(0, 2);
    check.due("always closed: none", z.hazards(0), 0);
    z.setFault(0, 0);
    check.due("from /a to A", z.hazards(0), 2);
    RelayBank w = Check.bank(1, 1, 0, "/A/b");
    w.settle(199);
    check.due("b stops it", w.hazards(1), 0);
    check.due("a does not", w.hazards(0), -9);
  }

  /** A and B go to and fro until the chain from D to H, 20 ticks each, ends it: 205 events in all. */
  private static void limitOfEvents() {
    RelayBank x = Check.bank(20, 20, 0, "a/A/H", "a/B/H", "0", "a", "D", "E", "F", "G");
    x.setDelays(0, 1, 1, 0);
    x.setDelays(1, 1, 1, 0);
    x.press(0, 1);
    int ends = 256 + 8 + 16 + 32 + 64 + 128;
    check.due("4 events", x.settle(4), 4);
    check.due("200 of 201: not quiet", x.outcome(0, 200) & 256, 0);
    check.due("200 of 201: not quiet, reverse", x.outcome(1, 200) & 256, 0);
    check.due("200 of 201: no hazards", x.hazards(1), -9);
    check.due("200 of 201: explains nothing", x.explain(ends - 256) & 48, 0);
    check.due("201 are too many for pass()", x.pass(1000), -3);
    check.due("1 event", x.settle(1), 1);
    check.due("199 of 200: not quiet", x.outcome(0, 199) & 256, 0);
    check.due("200 of 200: quiet", x.outcome(0, 200), ends);
    check.due("200 of 200: no hazards", x.hazards(1), 0);
    check.due("200 of 200: explains", x.explain(ends - 256) & 48, 48);
    check.due("200 are not too many for pass()", x.pass(1000), 200);
    check.due("quiet", x.count(2), 0);
    check.due("attracted", x.count(5), ends - 256);
  }

  private static void stableStates() {
    check.due("no relay", new RelayBank().stableStates(), 1);
    check.due("one that holds", Check.bank(1, 1, 0, "A").stableStates(), 2);
    check.due("one that can't", Check.bank(1, 1, 0, "/A").stableStates(), 0);
    check.due("two that exclude", Check.bank(1, 1, 0, "/B", "/A").stableStates(), 2);
    check.due("eight that hold", Check.bank(1, 1, 0,
        "A", "B", "C", "D", "E", "F", "G", "H").stableStates(), 256);
    RelayBank x = Check.bank(1, 1, 5, "a/B+A", "b/A");
    check.due("no key", x.stableStates(), 2);
    x.press(0, 1);
    check.due("with a", x.stableStates(), 1);
    x.press(1, 1);
    check.due("with a and b", x.stableStates(), 2);
    x.setFault(0, 1);
    check.due("A always open", x.stableStates(), 1);
    x.setFault(0, 2);
    check.due("A always closed", x.stableStates(), 1);
    x.setFault(0, 0);
    x.stick(0, 1);
    check.due("A stuck at rest", x.stableStates(), 1);
    RelayBank y = Check.bank(1, 1, 3, "/A");
    y.step();
    y.stick(0, 1);
    check.due("bounces", y.count(7), 1);
    check.due("stuck: always stable", y.stableStates(), 1);
    RelayBank z = Check.bank(1, 1, 3, "a+B", "A+b");
    z.press(0, 1);
    z.step();
    check.due("a bounce does not count", z.stableStates(), 1);
    check.due("but is there still", z.count(7), 1);
    z.press(0, 0);
    check.due("two", z.stableStates(), 2);
  }

  private static void explain() {
    RelayBank x = Check.bank(2, 2, 0, "a", "A");
    check.due("explain(-1)", x.explain(-1), -1);
    check.due("explain(256)", x.explain(256), -1);
    check.due("A closed", x.explain(2), 2);
    check.due("all but A closed", x.explain(0), 1 + 4 + 8);
    check.due("none", x.explain(1), 0);
    check.due("relays that are not there", x.explain(255), 0);
    x.press(0, 1);
    check.due("A open", x.explain(1), 1);
    check.due("others", x.explain(3), 2 + 4 + 8);
    x.setFault(0, 2);
    check.due("only those of B", x.explain(3), 4 + 8);
    check.due("nothing changed", x.relay(1, 4), 0);
    check.due("nothing changed", x.count(5), 0);
    x.setFault(1, 1);
    check.due("all have faults", x.explain(3), 0);
    RelayBank race = Check.bank(3, 2, 0, "a/B", "a/A", "0");
    race.press(0, 1);
    check.due("in the normal order A wins", race.explain(1), 2 + 4 + 16 + 32);
    check.due("but by its own fault, or B's", race.explain(2), 1 + 8);
    RelayBank y = Check.bank(1, 1, 0, "/A");
    check.due("open: attracted", y.explain(1), 1);
    check.due("closed: at rest", y.explain(0), 2);
    RelayBank z = Check.bank(1, 1, 0, "0", "0", "0", "0", "0", "0", "0", "A");
    check.due("relay 0 closed", z.explain(128), 2);
    check.due("all others", z.explain(0), 65535 - 2);
  }

  private static void explainBounce() {
    // The answer is from the present state on: the bounce goes on, and B stays if it is fed by it.
    RelayBank x = new RelayBank();
    x.addRelay(1, 1, 5);
    x.addRelay(2, 1, 0);
    Check.load(x, 0, "a");
    Check.load(x, 1, "/Aa+B");
    x.press(0, 1);
    x.step();
    check.due("B by the bounce, held by its contact", x.explain(3), 1 + 8);
    check.due("B not fed, or not held", x.explain(1), 2 + 4);
  }

  private static void undo() {
    RelayBank x = new RelayBank();
    check.due("nothing to undo", x.undo(), -2);
    x.addRelay(1, 2, 3);
    check.due("one", x.count(9), 1);
    check.due("none left", x.undo(), 0);
    check.due("no relay", x.count(0), 0);
    check.due("nothing to undo", x.undo(), -2);
    x.addRelay(1, 2, 3);
    for (int i = 1; i <= 9; i++) {
      x.pass(i);
      check.due("saved behind " + i, x.count(9), Math.min(i + 1, 6));
    }
    int[] times = {36, 28, 21, 15, 10, 6};
    for (int i = 0; i < 6; i++) {
      check.due("undo " + i, x.undo(), 5 - i);
      check.due("time " + i, x.count(1), times[i]);
    }
    check.due("the older ones are discarded", x.undo(), -2);
    check.due("time", x.count(1), 6);
    x.pass(1);
    x.pass(1);
    check.due("undo", x.undo(), 1);
    check.due("undo", x.undo(), 0);
    check.due("time", x.count(1), 6);
  }

  private static void undoRestores() {
    RelayBank x = Check.bank(3, 4, 2, "a", "A+/b");
    check.due("saved", x.count(9), 4);
    x.press(0, 1);
    x.step();
    x.setDelays(0, 5, 6, 0);
    x.undo();
    check.due("pick-up", x.relay(0, 0), 3);
    check.due("release", x.relay(0, 1), 4);
    check.due("bounce", x.relay(0, 2), 2);
    x.setCondition(1, 0, 8, 2);
    x.undo();
    check.due("condition", x.condition(1, 0, 8), 1);
    x.removeBranch(1, 0);
    x.undo();
    check.due("branches", x.relay(1, 3), 2);
    check.due("condition", x.condition(1, 0, 8), 1);
    check.due("condition", x.condition(1, 1, 1), 2);
    x.setFault(0, 2);
    x.undo();
    check.due("fault", x.relay(0, 4), 0);
    x.stick(0, 1);
    x.undo();
    check.due("stuck", x.relay(0, 5), 0);
    int events = x.count(2);
    int bouncing = x.count(7);
    int fed = x.count(4);
    x.settle(200);
    x.undo();
    check.due("events", x.count(2), events);
    check.due("bouncing", x.count(7), bouncing);
    check.due("fed", x.count(4), fed);
    x.press(1, 1);
    check.due("key", x.count(3), 3);
    x.undo();
    check.due("key", x.count(3), 1);
    Check.type(x, "b");
    x.undo();
    check.due("the text is no part of it", x.count(8), 1);
    // Refused calls and questions save nothing.
    int saved = x.count(9);
    x.addRelay(0, 0, 0);
    x.setDelays(9, 1, 1, 1);
    x.setCondition(0, 9, 0, 0);
    x.removeBranch(0, 9);
    x.load(9);
    x.press(9, 1);
    x.setFault(0, 9);
    x.stick(0, 9);
    x.settle(0);
    x.pass(0);
    x.outcome(0, 200);
    x.isRace();
    x.raceBy(0);
    x.hazards(0);
    x.stableStates();
    x.explain(0);
    x.clearText();
    x.appendCharacter('?');
    x.load(0);
    check.due("saved", x.count(9), saved);
  }

  /** Each of the calls saves just one state, also if it changes nothing. */
  private static void eachCallIsSaved() {
    int[] answers = {1, 0, 0, 0, 1, 1, 0, 0, 0, 1, 0};
    for (int call = 0; call < answers.length; call++) {
      RelayBank x = Check.bank(2, 3, 0, "/a");
      int events = x.count(2);
      Check.type(x, "1");
      check.due("answer of call " + call, savingCall(x, call), answers[call]);
      check.due("saved behind call " + call, x.count(9), 3);
      check.due("undo behind call " + call, x.undo(), 2);
      check.due("events behind call " + call, x.count(2), events);
      check.due("branches behind call " + call, x.relay(0, 3), 1);
      check.due("condition behind call " + call, x.condition(0, 0, 0), 2);
      check.due("time behind call " + call, x.count(1), 0);
      check.due("keys behind call " + call, x.count(3), 0);
      check.due("attracted behind call " + call, x.count(5), 0);
      check.due("fault behind call " + call, x.relay(0, 4), 0);
      check.due("stuck behind call " + call, x.relay(0, 5), 0);
    }
  }

  private static int savingCall(RelayBank x, int call) {
    switch (call) {
      case 0: return x.addRelay(1, 1, 1);
      case 1: return x.setDelays(0, 2, 3, 0);
      case 2: return x.setCondition(0, 1, 0, 0);
      case 3: return x.removeBranch(0, 0);
      case 4: return x.load(0);
      case 5: return x.press(0, 1);
      case 6: return x.setFault(0, 1);
      case 7: return x.stick(0, 1);
      case 8: return x.step();
      case 9: return x.settle(1);
      default: return x.pass(1);
    }
  }
}
