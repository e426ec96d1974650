/**
 * Runs of calls on the program and on SlowBank side by side, the same ones at each start. Each round
 * asks so much that the 512th call is soon behind: the two banks count no calls, so it is no matter.
 */
public final class ModelTest {
  private static final int RUNS = 700;
  private static final int ROUNDS = 400;
  private static final int[] ODD = {-1, -2, 8, 9, 16, 21, 201, 256, 1001,
      Integer.MAX_VALUE, Integer.MIN_VALUE};
  private static final Check check = new Check("ModelTest");

  private long seed;
  private RelayBank bank;
  private SlowBank model;
  private String call;
  private int delays;
  private int bounces;

  public static void main(String[] args) {
    for (int run = 0; run < RUNS && !check.hasFailed(); run++) {
      new ModelTest().compare(run);
    }
    check.end();
  }

  private int any(int bound) {
    seed = seed * 6364136223846793005L + 1442695040888963407L;
    return (int) Long.remainderUnsigned(seed >>> 33, bound);
  }

  /** Now and then a number that is out of any range. */
  private int arg(int least, int most) {
    return any(60) == 0 ? ODD[any(ODD.length)] : least + any(most - least + 1);
  }

  private int aRelay() {
    int relays = model.count(0);
    return relays == 0 || any(80) == 0 ? arg(-1, 8) : any(relays);
  }

  private void due(String name, int got, int want, int... args) {
    StringBuilder told = new StringBuilder(call).append(name).append('(');
    for (int i = 0; i < args.length; i++) {
      told.append(i == 0 ? "" : ", ").append(args[i]);
    }
    check.due(told.append(')').toString(), got, want);
  }

  private void compare(int run) {
    seed = 77777L * run + 5;
    bank = new RelayBank();
    model = new SlowBank();
    delays = 1 + any(3) * any(7);
    bounces = any(3) * 2;
    int relays = 1 + any(8);
    for (int i = 0; i < ROUNDS && !check.hasFailed(); i++) {
      call = "run " + run + " round " + i + ": ";
      if (i < relays) {
        add(arg(1, delays), arg(1, delays), arg(0, bounces));
      } else if (i < relays * 8) {
        type();
      } else {
        anyCall();
      }
      state();
    }
  }

  private void add(int pickUp, int release, int bounce) {
    due("addRelay", bank.addRelay(pickUp, release, bounce),
        model.addRelay(pickUp, release, bounce), pickUp, release, bounce);
  }

  private void anyCall() {
    int choice = any(100);
    if (choice < 18) {
      type();
    } else if (choice < 40) {
      change(any(7));
    } else if (choice < 75) {
      happen(any(7));
    } else if (choice < 95) {
      ask(any(10));
    } else {
      due("undo", bank.undo(), model.undo());
    }
  }

  private char aCharacter() {
    int relays = Math.max(1, model.count(0));
    switch (any(40)) {
      case 0: return (char) any(256);
      case 1: return (char) ('a' + any(9));
      case 2: return (char) ('A' + any(9));
      case 3: return '1';
      case 4: return any(3) == 0 ? '0' : ' ';
      case 5: return '/';
      default: return any(2) == 0 ? (char) ('a' + any(3)) : (char) ('A' + any(relays));
    }
  }

  private void append(int character) {
    due("appendCharacter", bank.appendCharacter(character), model.appendCharacter(character),
        character);
  }

  /** A whole circuit, mostly a right one. */
  private void type() {
    if (any(6) != 0) {
      due("clearText", bank.clearText(), model.clearText());
    }
    int branches = 1 + any(4) + (any(15) == 0 ? 4 : 0);
    for (int branch = 0; branch < branches; branch++) {
      if (branch > 0) {
        append('+');
      }
      if (any(20) == 0) {
        append('1');
        continue;
      }
      for (int conditions = any(3); conditions >= 0; conditions--) {
        if (any(12) == 0) {
          append(' ');
        }
        if (any(3) == 0) {
          append('/');
        }
        append(aCharacter());
      }
    }
    if (any(25) == 0) {
      append(aCharacter());
    }
    int relay = aRelay();
    due("load", bank.load(relay), model.load(relay), relay);
  }

  private void change(int choice) {
    int relay = aRelay();
    int branch = any(20) == 0 ? arg(-1, 7) : any(Math.max(1, model.relay(relay, 3) + 1));
    int subject = any(10) == 0 ? arg(-1, 16) : any(2) == 0 ? any(3) : 8 + any(1 + model.count(0));
    switch (choice) {
      case 0:
        if (any(3) == 0) {
          add(arg(1, 20), arg(1, 20), arg(0, 5));
        }
        break;
      case 1: {
        int pickUp = arg(1, delays);
        int release = arg(1, delays);
        int bounce = arg(0, bounces);
        due("setDelays", bank.setDelays(relay, pickUp, release, bounce),
            model.setDelays(relay, pickUp, release, bounce), relay, pickUp, release, bounce);
        break;
      }
      case 2: case 3: case 4: {
        int how = arg(0, 2);
        due("setCondition", bank.setCondition(relay, branch, subject, how),
            model.setCondition(relay, branch, subject, how), relay, branch, subject, how);
        break;
      }
      case 5:
        if (any(2) == 0) {
          due("removeBranch", bank.removeBranch(relay, branch), model.removeBranch(relay, branch),
              relay, branch);
        }
        break;
      default:
        due("appendCharacter", bank.appendCharacter(-1), model.appendCharacter(-1));
        break;
    }
  }

  private void happen(int choice) {
    switch (choice) {
      case 0: {
        int key = any(8) == 0 ? arg(0, 7) : any(3);
        int on = any(9) == 0 ? arg(0, 1) : 1 - (model.count(3) >> (key & 7) & 1);
        due("press", bank.press(key, on), model.press(key, on), key, on);
        break;
      }
      case 1: {
        int relay = aRelay();
        int fault = any(2) * arg(0, 2);
        due("setFault", bank.setFault(relay, fault), model.setFault(relay, fault), relay, fault);
        break;
      }
      case 2: {
        int relay = aRelay();
        int on = any(2) * arg(0, 1);
        due("stick", bank.stick(relay, on), model.stick(relay, on), relay, on);
        break;
      }
      case 3: case 4:
        due("step", bank.step(), model.step());
        break;
      case 5: {
        int events = any(2) == 0 ? arg(1, 8) : arg(1, 200);
        due("settle", bank.settle(events), model.settle(events), events);
        break;
      }
      default: {
        int ticks = any(5) == 0 ? arg(1, 1000) : arg(1, 30);
        due("pass", bank.pass(ticks), model.pass(ticks), ticks);
        break;
      }
    }
  }

  private void ask(int choice) {
    int key = any(8) == 0 ? arg(0, 7) : any(3);
    switch (choice) {
      case 0: case 1: {
        int reverse = arg(0, 1);
        int events = any(2) == 0 ? arg(1, 8) : arg(1, 200);
        due("outcome", bank.outcome(reverse, events), model.outcome(reverse, events), reverse,
            events);
        break;
      }
      case 2:
        due("isRace", bank.isRace(), model.isRace());
        break;
      case 3:
        due("raceBy", bank.raceBy(key), model.raceBy(key), key);
        break;
      case 4: case 5:
        due("hazards", bank.hazards(key), model.hazards(key), key);
        break;
      case 6:
        due("stableStates", bank.stableStates(), model.stableStates());
        break;
      case 7: case 8: {
        int seen = any(4) == 0 ? arg(0, 255) : model.outcome(0, 200) & 255;
        due("explain", bank.explain(seen), model.explain(seen), seen);
        break;
      }
      default: {
        int index = arg(0, 16);
        int part = arg(0, 2);
        due("event", bank.event(index, part), model.event(index, part), index, part);
        int relay = aRelay();
        int branch = arg(0, 6);
        int subject = arg(0, 15);
        due("condition", bank.condition(relay, branch, subject),
            model.condition(relay, branch, subject), relay, branch, subject);
        break;
      }
    }
  }

  private void state() {
    for (int what = -1; what <= 10; what++) {
      due("count", bank.count(what), model.count(what), what);
    }
    int relay = aRelay();
    for (int what = -1; what <= 8; what++) {
      due("relay", bank.relay(relay, what), model.relay(relay, what), relay, what);
    }
    int events = model.count(2);
    for (int part = 0; part < 3; part++) {
      int index = any(events + 1);
      due("event", bank.event(index, part), model.event(index, part), index, part);
    }
  }
}
