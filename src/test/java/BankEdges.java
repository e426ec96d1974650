/** The sentences of "What it is" and "Bank". */
final class BankEdges {
  private final Edges e;

  BankEdges(Edges edges) {
    e = edges;
  }

  void all() {
    e.below("What it is");
    calls();
    e.below("Bank");
    keysAndRelays();
    delays();
    armature();
    coil();
    fedIfItConducts();
    branches();
    conditions();
    notBoth();
    plain();
    inverted();
    allConditions();
    oneBranch();
    emptyBranch();
    emptyCircuit();
    contact();
  }

  private void calls() {
    e.sentence("An object is used for at most 512 calls");
    RelayBank x = new RelayBank();
    x.addRelay(20, 20, 5);
    Check.type(x, "1");
    x.load(0);
    // 4 calls so far: addRelay(), clearText() and appendCharacter() by type(), load().
    for (int call = 5; call <= 511; call++) {
      e.due("call " + call, x.pass(20), call == 5 ? 1 : call == 6 ? 1 : 0);
    }
    e.due("the 512th call", x.count(1), 507 * 20);
    RelayBank y = new RelayBank();
    y.addRelay(20, 20, 0);
    Check.type(y, "/A");
    y.load(0);
    for (int call = 6; call <= 511; call++) {
      e.due("call " + call, y.settle(200), 200);
    }
    e.due("the 512th call, far from the time 0", y.count(1), 506 * 200 * 20);
    RelayBank z = new RelayBank();
    for (int call = 1; call <= 510; call += 2) {
      e.due("call " + call, z.addRelay(1, 1, 0), 0);
      e.due("call " + (call + 1), z.undo(), 0);
    }
    e.due("the 511th call", z.undo(), -2);
    e.due("the 512th call", z.count(0), 0);
  }

  private void keysAndRelays() {
    e.sentence("There are 8 keys, 0 to 7");
    RelayBank x = new RelayBank();
    e.due("no key at first", x.count(3), 0);
    for (int key = 0; key < 8; key++) {
      e.due("key " + key, x.press(key, 1), 0);
      e.due("keys up to " + key, x.count(3), (2 << key) - 1);
    }
    e.due("no key 8", x.press(8, 1), -1);
    e.due("no key -1", x.press(-1, 1), -1);
    RelayBank y = new RelayBank();
    for (int relay = 0; relay < 8; relay++) {
      e.due("no relay " + relay + " yet", y.relay(relay, 0), -1);
      e.due("relay " + relay, y.addRelay(relay + 1, 20 - relay, 0), relay);
    }
    for (int relay = 0; relay < 8; relay++) {
      e.due("pick-up of " + relay, y.relay(relay, 0), relay + 1);
      e.due("release of " + relay, y.relay(relay, 1), 20 - relay);
    }
    e.due("a ninth relay", y.addRelay(1, 1, 0), -3);
    e.due("8 relays", y.count(0), 8);
    e.due("no relay 8", y.relay(8, 0), -1);
  }

  private void delays() {
    e.sentence("A relay has a pick-up delay and a release delay");
    delay(1, 20, 0);
    delay(20, 1, 5);
    delay(1, 1, 1);
    delay(20, 20, 5);
    RelayBank x = new RelayBank();
    e.due("pick-up 0", x.addRelay(0, 1, 0), -1);
    e.due("pick-up 21", x.addRelay(21, 1, 0), -1);
    e.due("release 0", x.addRelay(1, 0, 0), -1);
    e.due("release 21", x.addRelay(1, 21, 0), -1);
    e.due("bounce -1", x.addRelay(1, 1, -1), -1);
    e.due("bounce 6", x.addRelay(1, 1, 6), -1);
  }

  private void delay(int pickUp, int release, int bounce) {
    RelayBank x = Check.bank(pickUp, release, bounce, "a");
    x.pass(1000);
    x.press(0, 1);
    e.due("attracted at", x.event(0, 0), 1000 + pickUp);
    x.settle(200);
    e.due("the bounce has ended at", x.count(1), 1000 + pickUp + bounce);
    x.press(0, 0);
    e.due("released at", x.event(0, 0), 1000 + pickUp + bounce + release);
    x.settle(200);
    e.due("the bounce has ended at", x.count(1), 1000 + pickUp + release + 2 * bounce);
  }

  private void armature() {
    e.sentence("Its armature is attracted or at rest (at first).");
    RelayBank x = Banks.eight();
    e.due("at rest", x.count(5), 0);
    Check.load(x, 7, "1");
    e.due("at rest until its event", x.count(5), 0);
    x.step();
    e.due("attracted", x.count(5), 128);
    Check.load(x, 7, "0");
    e.due("attracted until its event", x.count(5), 128);
    x.step();
    e.due("at rest again", x.count(5), 0);
  }

  private void coil() {
    e.sentence("Its coil is fed or not (at first);");
    RelayBank x = Banks.eight();
    e.due("not fed", x.count(4), 0);
    e.due("no event by that", x.count(2), 0);
    Check.load(x, 7, "1");
    e.due("fed", x.count(4), 128);
    Check.load(x, 7, "0");
    e.due("not fed again", x.count(4), 0);
  }

  private void fedIfItConducts() {
    e.sentence("it is fed just if its circuit conducts.");
    RelayBank x = Banks.some();
    x.undo();
    for (int event = 0; event < 8; event++) {
      for (int relay = 0; relay < 2; relay++) {
        e.due("relay " + relay + " behind event " + event, x.count(4) >> relay & 1, x.relay(relay, 7));
      }
      x.press(event % 3, event & 1);
      x.step();
    }
  }

  private void branches() {
    e.sentence("A circuit consists of at most 6 branches");
    RelayBank x = Banks.eight();
    for (int branch = 0; branch < 6; branch++) {
      e.due("branch " + branch, x.setCondition(7, branch, branch, 1), 0);
      e.due("branches", x.relay(7, 3), branch + 1);
    }
    e.due("a seventh", x.setCondition(7, 6, 6, 1), -3);
    e.due("six", x.relay(7, 3), 6);
    e.due("six from a text", Check.load(x, 0, "a+b+c+d+e+f"), 6);
    e.due("seven from a text", Check.load(x, 0, "a+b+c+d+e+f+g"), -22);
    e.due("six still", x.relay(0, 3), 6);
    e.due("all 16 subjects in one", Check.load(x, 0, "abcdefghABCDEFGH"), 1);
    for (int subject = 0; subject < 16; subject++) {
      e.due("subject " + subject, x.condition(0, 0, subject), 1);
    }
  }

  private void conditions() {
    e.sentence("A condition concerns a key or a relay, and is plain or inverted;");
    RelayBank x = Banks.eight();
    for (int subject : new int[] {0, 7, 8, 15}) {
      x.setCondition(subject % 8, 0, subject, 1);
      e.due("plain " + subject, x.condition(subject % 8, 0, subject), 1);
      x.setCondition(subject % 8, 0, subject, 2);
      e.due("inverted " + subject, x.condition(subject % 8, 0, subject), 2);
      for (int other = 0; other < 16; other++) {
        if (other != subject && other != (subject + 8) % 16) {
          e.due("none of " + other, x.condition(subject % 8, 0, other), 0);
        }
      }
    }
  }

  private void notBoth() {
    e.sentence("one branch cannot have a plain condition and an inverted one");
    RelayBank x = Banks.eight();
    for (int subject : new int[] {0, 7, 8, 15}) {
      x.setCondition(0, 0, subject, 1);
      e.due("plain gives way", x.setCondition(0, 0, subject, 2), 1);
      e.due("inverted gives way", x.setCondition(0, 0, subject, 1), 2);
      e.due("the other branch may", x.setCondition(0, 1, subject, 2), 0);
      e.due("plain there", x.condition(0, 0, subject), 1);
      e.due("inverted here", x.condition(0, 1, subject), 2);
    }
    e.due("a/a", Check.load(x, 1, "a/a"), -12);
    e.due("/HH", Check.load(x, 1, "/HH"), -12);
    e.due("a+/a", Check.load(x, 1, "a+/a"), 2);
  }

  private void plain() {
    e.sentence("A plain condition holds if the key is pressed");
    RelayBank x = Check.bank(1, 1, 0, "a", "h", "A", "0", "0", "0", "0", "0");
    Check.load(x, 3, "H");
    e.due("none", x.count(4), 0);
    x.press(0, 1);
    e.due("key 0", x.count(4), 1);
    x.press(7, 1);
    e.due("key 7", x.count(4), 1 + 2);
    x.press(0, 0);
    e.due("not key 0", x.count(4), 2);
    x.setFault(0, 2);
    e.due("contact 0", x.count(4), 2 + 4);
    x.setFault(7, 2);
    e.due("contact 7", x.count(4), 2 + 4 + 8);
    x.setFault(0, 0);
    e.due("not contact 0", x.count(4), 2 + 8);
  }

  private void inverted() {
    e.sentence("an inverted one holds if it is not so.");
    RelayBank x = Check.bank(1, 1, 0, "/a", "/h", "/A", "0", "0", "0", "0", "0");
    Check.load(x, 3, "/H");
    e.due("all", x.count(4), 15);
    x.press(0, 1);
    e.due("key 0", x.count(4), 14);
    x.press(7, 1);
    e.due("key 7", x.count(4), 12);
    x.setFault(0, 2);
    e.due("contact 0", x.count(4), 8);
    x.setFault(7, 2);
    e.due("contact 7", x.count(4), 0);
    x.setFault(7, 0);
    x.press(0, 0);
    e.due("not so again", x.count(4), 1 + 8);
  }

  private void allConditions() {
    e.sentence("A branch conducts if all its conditions hold;");
    RelayBank x = Check.bank(1, 1, 0, "abcdefgh", "/a/b/c/d/e/f/g/h", "a/b");
    for (int key = 0; key < 8; key++) {
      e.due("no key, or some", x.count(4) & 3, key == 0 ? 2 : 0);
      e.due("a alone", x.count(4) >> 2, key == 1 ? 1 : 0);
      x.press(key, 1);
    }
    e.due("all keys", x.count(4), 1);
    x.press(3, 0);
    e.due("all but one", x.count(4), 0);
    RelayBank y = Banks.eight(1, 1, 0, "0");
    Check.load(y, 2, "ABCDEFGH");
    for (int relay = 7; relay >= 0; relay--) {
      e.due("contacts behind " + relay, y.count(4), 0);
      y.setFault(relay, 2);
    }
    e.due("all contacts", y.count(4), 4);
  }

  private void oneBranch() {
    e.sentence("the circuit conducts if a branch does.");
    RelayBank x = Check.bank(1, 1, 0, "a+b+c+d+e+f");
    e.due("none", x.count(4), 0);
    for (int key = 0; key < 6; key++) {
      e.due("branch " + key + " alone", x.press(key, 1), 1);
      e.due("fed", x.relay(0, 7), 1);
      x.press((key + 1) % 6, 1);
      e.due("two are no more", x.count(4), 1);
      x.press(key, 0);
      e.due("the other still", x.count(4), 1);
      x.press((key + 1) % 6, 0);
      e.due("none again", x.count(4), 0);
    }
  }

  private void emptyBranch() {
    e.sentence("(A branch without conditions always conducts;");
    RelayBank x = Banks.eight();
    x.setCondition(0, 0, 0, 0);
    e.due("by setCondition()", x.relay(0, 7), 1);
    Check.load(x, 1, "a+1");
    e.due("by a text", x.relay(1, 7), 1);
    x.setCondition(2, 0, 3, 1);
    e.due("with one", x.relay(2, 7), 0);
    x.setCondition(2, 0, 3, 0);
    e.due("the last one taken away", x.relay(2, 7), 1);
    e.due("fed", x.count(4), 7);
    x.press(0, 1);
    x.press(3, 1);
    x.setFault(0, 2);
    e.due("whatever is pressed or closed", x.count(4), 7);
  }

  private void emptyCircuit() {
    e.sentence("a circuit without branches never does.)");
    RelayBank x = Banks.eight();
    e.due("a new one", x.relay(0, 7), 0);
    Check.load(x, 0, "0");
    e.due("by a text", x.relay(0, 7), 0);
    x.setCondition(1, 0, 0, 0);
    x.removeBranch(1, 0);
    e.due("by removeBranch()", x.relay(1, 7), 0);
    for (int key = 0; key < 8; key++) {
      x.press(key, 1);
      x.setFault(key, 2);
    }
    e.due("whatever is pressed or closed", x.count(4), 0);
  }

  private void contact() {
    e.sentence("The contact of a relay is closed just if its armature is attracted");
    RelayBank x = Banks.eight(2, 3, 0, "a");
    x.press(0, 1);
    for (int event = 0; event < 8; event++) {
      e.due("closed behind " + event, x.count(6), (1 << event) - 1);
      e.due("attracted behind " + event, x.count(5), (1 << event) - 1);
      x.step();
    }
    x.press(0, 0);
    e.due("all closed though not fed", x.count(6), 255);
    x.settle(8);
    e.due("all open", x.count(6), 0);
  }
}
