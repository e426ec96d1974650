/** Compares answers with those that are due, and tells the wrong ones. */
final class Check {
  private final String name;
  private int wrong;
  private int right;

  Check(String name) {
    this.name = name;
  }

  void due(String call, long got, long want) {
    if (got == want) {
      right++;
    } else {
      wrong++;
      if (wrong <= 20) {
        System.out.println(name + ": " + call + " answered " + got + ", due is " + want);
      }
    }
  }

  boolean hasFailed() {
    return wrong > 0;
  }

  void end() {
    System.out.println(name + ": " + right + " answers as due, " + wrong + " not");
    if (wrong > 0 || right == 0) {
      System.exit(1);
    }
  }

  /** Puts the text in place of the present one. */
  static void type(RelayBank bank, String text) {
    bank.clearText();
    for (int i = 0; i < text.length(); i++) {
      bank.appendCharacter(text.charAt(i));
    }
  }

  static int load(RelayBank bank, int relay, String text) {
    type(bank, text);
    return bank.load(relay);
  }

  /** A bank with relays of the same delays, one for each circuit. */
  static RelayBank bank(int pickUp, int release, int bounce, String... circuits) {
    RelayBank bank = new RelayBank();
    for (int i = 0; i < circuits.length; i++) {
      bank.addRelay(pickUp, release, bounce);
    }
    for (int i = 0; i < circuits.length; i++) {
      load(bank, i, circuits[i]);
    }
    return bank;
  }
}
