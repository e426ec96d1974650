/** Banks that several tests use. */
final class Banks {
  private Banks() {
  }

  /** Two relays, an event that waits, a bounce, six saved states, and a text with an error. */
  static RelayBank some() {
    RelayBank x = Check.bank(4, 5, 3, "a/B", "A+/bB");
    x.press(1, 1);
    x.press(0, 1);
    x.step();
    x.pass(1);
    x.press(0, 0);
    Check.type(x, "a+?");
    return x;
  }

  static RelayBank without() {
    return new RelayBank();
  }

  static RelayBank eight() {
    RelayBank x = new RelayBank();
    for (int relay = 0; relay < 8; relay++) {
      x.addRelay(1 + relay, 2 + relay, 0);
    }
    return x;
  }

  /** Eight relays with one circuit each. */
  static RelayBank eight(int pickUp, int release, int bounce, String circuit) {
    return Check.bank(pickUp, release, bounce, circuit, circuit, circuit, circuit, circuit, circuit,
        circuit, circuit);
  }

  /** A relay that is attracted and released for ever, an event each so many ticks. */
  static RelayBank restless(int ticks) {
    return Check.bank(ticks, ticks, 0, "/A");
  }

  /** A restless bank at a multiple of 4000 as its time. */
  static RelayBank late(int time) {
    RelayBank x = restless(20);
    for (int at = 0; at < time; at += 200 * 20) {
      x.settle(200);
    }
    return x;
  }

  static final int LONG_RUN_ENDS = 1 + 8 + 16 + 32 + 64 + 128;
  private static final int LONG_RUN = 210;

  /**
   * A bank that will be quiet behind so many events in the normal order, and behind one less in the
   * reverse order, with the armatures LONG_RUN_ENDS both times. B and C are attracted and released
   * each tick, together, until the contact of H closes, 100 ticks from the start. D is stuck; its
   * coil is fed just while B is closed and C is open, between the contacts of A (at 24) and E (at
   * 25). So in the normal order it is fed at 25, for no time at all, and the release that waits
   * behind that happens and changes nothing.
   */
  static RelayBank longRun(int events) {
    RelayBank x = Check.bank(20, 20, 5, "0", "0", "0", "1", "A", "E", "F", "G");
    x.settle(200);
    x.stick(3, 1);
    Check.load(x, 3, "B/CA/E");
    x.settle(200);
    x.setDelays(0, 19, 20, 5);
    x.setDelays(1, 1, 1, 0);
    x.setDelays(2, 1, 1, 0);
    x.setDelays(4, 1, 1, 0);
    Check.load(x, 0, "a");
    Check.load(x, 1, "a/B/H");
    Check.load(x, 2, "a/C/H");
    x.press(0, 1);
    if (events < LONG_RUN) {
      x.settle(LONG_RUN - events);
    }
    return x;
  }
}
