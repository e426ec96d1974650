import java.util.function.Supplier;

/** The sentences of "Undo", "Errors" and the promise 25. */
final class UndoEdges {
  private final Edges e;

  UndoEdges(Edges edges) {
    e = edges;
  }

  void all() {
    e.below("Undo");
    everySuccessfulCall();
    atMostSix();
    seventh();
    mostRecent();
    e.below("Errors");
    errorsChangeNothing();
    firstError();
    none();
    sets();
    constants();
    e.below("Promise 25: undo");
    undo();
  }

  /** A is attracted and bounces, B is at rest; five states are saved. */
  private static RelayBank five() {
    RelayBank x = new RelayBank();
    x.addRelay(2, 3, 1);
    x.addRelay(5, 5, 0);
    Check.load(x, 0, "/a");
    Check.load(x, 1, "A");
    x.step();
    Check.type(x, "1");
    return x;
  }

  private void saves(String name, Supplier<RelayBank> maker, Edges.Call call, int answer) {
    RelayBank x = maker.get();
    int saved = x.count(9);
    int length = x.count(8);
    String before = Edges.seen(x);
    e.due(name, call.of(x), answer);
    e.due(name + ": saved then", x.count(9), saved + 1);
    x.undo();
    int lost = length - x.count(8);
    e.due(name + ": the text is not restored", lost, name.startsWith("load") ? length : 0);
    for (int i = 0; i < lost; i++) {
      x.appendCharacter('1');
    }
    String now = Edges.seen(x);
    e.due(name + ": restored " + before + " as " + now, now.equals(before) ? 1 : 0, 1);
  }

  private void everySuccessfulCall() {
    e.sentence("Every successful call of addRelay()");
    Supplier<RelayBank> maker = UndoEdges::five;
    saves("addRelay()", maker, x -> x.addRelay(1, 1, 0), 2);
    saves("setDelays()", maker, x -> x.setDelays(0, 9, 9, 2), 1);
    saves("setDelays() of the same", maker, x -> x.setDelays(0, 2, 3, 1), 0);
    saves("setCondition()", maker, x -> x.setCondition(0, 0, 0, 1), 2);
    saves("setCondition() of the same", maker, x -> x.setCondition(0, 0, 0, 2), 2);
    saves("setCondition() of a new branch", maker, x -> x.setCondition(1, 1, 0, 0), 0);
    saves("removeBranch()", maker, x -> x.removeBranch(0, 0), 0);
    saves("load()", maker, x -> x.load(1), 1);
    saves("press()", maker, x -> x.press(0, 1), 1);
    saves("press() that feeds nothing", maker, x -> x.press(7, 1), 0);
    saves("setFault()", maker, x -> x.setFault(0, 2), 0);
    saves("setFault() of the same", maker, x -> x.setFault(0, 0), 0);
    saves("stick()", maker, x -> x.stick(1, 1), 0);
    saves("stick() of the same", maker, x -> x.stick(1, 0), 0);
    saves("step()", maker, x -> x.step(), 2);
    saves("settle()", maker, x -> x.settle(1), 1);
    saves("settle() to the end", maker, x -> x.settle(200), 2);
    saves("pass()", maker, x -> x.pass(1), 1);
    saves("pass() to the end", maker, x -> x.pass(1000), 2);
    Supplier<RelayBank> quiet = () -> Check.bank(1, 1, 0, "0");
    saves("settle() of a quiet bank", quiet, x -> x.settle(200), 0);
    saves("pass() of a quiet bank", quiet, x -> x.pass(1), 0);
  }

  private void atMostSix() {
    e.sentence("At most 6 states are saved;");
    RelayBank x = new RelayBank();
    for (int call = 1; call <= 20; call++) {
      x.pass(1);
      e.due("saved behind " + call, x.count(9), Math.min(call, 6));
    }
    for (int left = 5; left >= 0; left--) {
      e.due("undo", x.undo(), left);
    }
    e.due("no more", x.undo(), -2);
  }

  private void seventh() {
    e.sentence("when a seventh is saved, the oldest one is discarded.");
    for (int calls = 5; calls <= 20; calls++) {
      RelayBank x = new RelayBank();
      for (int call = 1; call <= calls; call++) {
        x.pass(call);
      }
      int time = calls * (calls + 1) / 2;
      for (int call = calls; call > Math.max(0, calls - 6); call--) {
        e.due("time before undo", x.count(1), time);
        e.due("undo", x.undo(), call - Math.max(0, calls - 6) - 1);
        time -= call;
      }
      e.due("the oldest that is saved", x.count(1), time);
      e.due("no older one", x.undo(), -2);
      e.due("it stays", x.count(1), time);
    }
  }

  private void mostRecent() {
    e.sentence("undo() restores the most recently saved state and discards it.");
    RelayBank x = new RelayBank();
    for (int call = 0; call < 8; call++) {
      x.pass(10);
    }
    x.undo();
    x.undo();
    e.due("time", x.count(1), 60);
    x.pass(1);
    e.due("saved", x.count(9), 5);
    x.undo();
    e.due("that before the last call, not an undone one", x.count(1), 60);
    x.pass(1);
    x.pass(1);
    x.pass(1);
    e.due("full again", x.count(9), 6);
    int[] times = {62, 61, 60, 50, 40, 30};
    for (int time : times) {
      x.undo();
      e.due("time", x.count(1), time);
    }
    e.due("the oldest one was discarded", x.undo(), -2);
    RelayBank y = Check.bank(1, 1, 0, "a");
    y.press(0, 1);
    y.undo();
    y.press(0, 1);
    y.step();
    y.undo();
    e.due("a state is not changed by what happens behind it", y.count(5), 0);
    e.due("its event waits again", y.count(2), 1);
    e.due("and happens again", y.step(), 0);
  }

  private void errorsChangeNothing() {
    e.sentence("A method that returns an error code changes nothing.");
    Supplier<RelayBank> some = Banks::some;
    e.still("addRelay()", some, x -> x.addRelay(1, 1, 6), -1);
    e.still("addRelay(), full", Banks::eight, x -> x.addRelay(1, 1, 5), -3);
    e.still("setDelays()", some, x -> x.setDelays(0, 1, 1, 6), -1);
    e.still("setDelays() of none", some, x -> x.setDelays(2, 1, 1, 1), -1);
    e.still("setCondition()", some, x -> x.setCondition(0, 1, 0, 3), -1);
    e.still("setCondition() of none", some, x -> x.setCondition(0, 1, 10, 1), -1);
    e.still("removeBranch()", some, x -> x.removeBranch(0, 1), -1);
    e.still("appendCharacter()", some, x -> x.appendCharacter(256), -1);
    e.still("load()", some, x -> x.load(2), -1);
    e.still("load() of an error", some, x -> x.load(0), -12);
    e.still("press()", some, x -> x.press(8, 1), -1);
    e.still("press(), pressed", some, x -> x.press(1, 1), -2);
    e.still("setFault()", some, x -> x.setFault(0, 3), -1);
    e.still("stick()", some, x -> x.stick(0, 2), -1);
    e.still("step()", Banks::eight, x -> x.step(), -2);
    e.still("settle()", some, x -> x.settle(0), -1);
    e.still("pass()", some, x -> x.pass(0), -1);
    e.still("pass(), too many", () -> Banks.restless(1), x -> x.pass(201), -3);
    e.still("pass(), too late", () -> Banks.late(100000), x -> x.pass(1), -3);
    e.still("count()", some, x -> x.count(10), -1);
    e.still("relay()", some, x -> x.relay(2, 0), -1);
    e.still("condition()", some, x -> x.condition(0, 1, 0), -1);
    e.still("event()", some, x -> x.event(-1, 0), -1);
    e.still("event() of none", some, x -> x.event(9, 0), -9);
    e.still("outcome()", some, x -> x.outcome(0, 201), -1);
    e.still("raceBy()", some, x -> x.raceBy(8), -1);
    e.still("hazards()", some, x -> x.hazards(8), -1);
    e.still("hazards(), not quiet", () -> Banks.restless(1), x -> x.hazards(0), -9);
    e.still("explain()", some, x -> x.explain(256), -1);
    e.still("undo()", Banks::without, x -> x.undo(), -2);
  }

  private void firstError() {
    e.sentence("If several error codes apply");
    e.due("addRelay(), wrong and full", Banks.eight().addRelay(0, 1, 0), -1);
    RelayBank full = Check.bank(1, 1, 0, "1+1+1+1+1+1");
    e.due("setCondition(), a seventh branch", full.setCondition(0, 6, 0, 1), -3);
    e.due("and a wrong subject", full.setCondition(0, 6, 16, 1), -1);
    e.due("and no such relay in it", full.setCondition(0, 6, 9, 1), -1);
    e.due("and a wrong how", full.setCondition(0, 6, 0, 3), -1);
    e.due("and no relay", full.setCondition(1, 6, 0, 1), -1);
    RelayBank text = Check.bank(1, 1, 0, "1");
    Check.type(text, "?".repeat(60));
    e.due("appendCharacter(), wrong and full", text.appendCharacter(-1), -1);
    e.due("load(), no relay and an error", text.load(1), -1);
    e.due("press(), wrong key, released already", text.press(8, 0), -1);
    e.due("press(), released already, wrong on", text.press(0, -1), -1);
    RelayBank late = Banks.late(100000);
    e.due("pass(), out of range and too late", late.pass(1001), -1);
    e.due("pass(), too many events", Banks.restless(1).pass(1001), -1);
    e.due("event(), wrong index of none", new RelayBank().event(-1, 0), -1);
  }

  private void none() {
    e.sentence("NONE is no error, and it is returned only if no error code applies.");
    RelayBank x = Banks.restless(1);
    e.due("event() of none", x.event(1, 2), -9);
    e.due("with a wrong part", x.event(1, 3), -1);
    e.due("with a wrong part", x.event(1, -1), -1);
    e.due("hazards(), not quiet", x.hazards(7), -9);
    e.due("with a wrong key", x.hazards(8), -1);
    e.due("with a wrong key", x.hazards(-1), -1);
  }

  private void sets() {
    e.sentence("Sets are told as bits (bit k for k).");
    for (int k = 0; k < 8; k++) {
      int bit = 1 << k;
      RelayBank x = Banks.eight(2, 2, 5, "0");
      x.press(k, 1);
      e.due("keys", x.count(3), bit);
      Check.load(x, k, "1");
      e.due("coils", x.count(4), bit);
      e.due("outcome()", x.outcome(0, 200), 256 + bit);
      x.step();
      e.due("armatures", x.count(5), bit);
      e.due("bouncing", x.count(7), bit);
      x.step();
      e.due("contacts", x.count(6), bit);
      e.due("explain()", x.explain(bit), 0xFFFF);
      RelayBank y = Banks.eight(2, 2, 0, "0");
      int other = (k + 1) % 8;
      Check.load(y, k, "a");
      Check.load(y, other, "/a+" + (char) ('A' + k));
      e.due("hazards()", y.hazards(0), 1 << other);
    }
  }

  private void constants() {
    e.sentence("`INVALID_ARGUMENT = -1`");
    e.due("its number", RelayBank.INVALID_ARGUMENT, -1);
    e.due("out of range", new RelayBank().count(10), RelayBank.INVALID_ARGUMENT);
    e.due("names something that does not exist", new RelayBank().relay(0, 0), RelayBank.INVALID_ARGUMENT);
    e.sentence("`ILLEGAL_STATE = -2`");
    e.due("its number", RelayBank.ILLEGAL_STATE, -2);
    e.due("undo()", new RelayBank().undo(), RelayBank.ILLEGAL_STATE);
    e.sentence("`CAPACITY_EXCEEDED = -3`");
    e.due("its number", RelayBank.CAPACITY_EXCEEDED, -3);
    e.due("addRelay()", Banks.eight().addRelay(1, 1, 1), RelayBank.CAPACITY_EXCEEDED);
    e.sentence("`NONE = -9`");
    e.due("its number", RelayBank.NONE, -9);
    e.due("event()", new RelayBank().event(0, 0), RelayBank.NONE);
  }

  private void undo() {
    e.sentence("Restores the most recently saved state and discards it.");
    RelayBank x = Banks.some();
    String before = Edges.seen(x);
    x.press(2, 1);
    x.undo();
    // The press pushed out the oldest of six states, so one less is saved now.
    String now = Edges.seen(x);
    e.due("but for that", now.equals(before.replaceFirst(" 3 6 relay", " 3 5 relay")) ? 1 : 0, 1);
    x.undo();
    e.due("then the one before", x.count(3), 3);
    e.sentence("Returns the number of states that are still saved;");
    for (int left = 3; left >= 0; left--) {
      e.due("undo()", x.undo(), left);
      e.due("count(9)", x.count(9), left);
    }
    RelayBank y = Banks.some();
    e.due("of six", y.undo(), 5);
    e.sentence("ILLEGAL_STATE if there is none.");
    e.due("all undone", x.undo(), -2);
    e.still("a new object", Banks::without, z -> z.undo(), -2);
    RelayBank z = new RelayBank();
    z.appendCharacter('a');
    z.clearText();
    z.isRace();
    z.stableStates();
    z.step();
    e.due("calls that save nothing", z.undo(), -2);
    z.settle(1);
    e.due("one that does", z.undo(), 0);
    e.due("none again", z.undo(), -2);
  }
}
