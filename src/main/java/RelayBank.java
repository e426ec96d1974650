/** A simulator of a bank of relays. What each call answers is told in ../shared/DOC.md. */
public final class RelayBank {
  public static final int INVALID_ARGUMENT = -1;
  public static final int ILLEGAL_STATE = -2;
  public static final int CAPACITY_EXCEEDED = -3;
  public static final int NONE = -9;

  private static final int KEYS = 8;
  private static final int RELAYS = 8;
  private static final int BRANCHES = 6;
  private static final int SUBJECTS = KEYS + RELAYS;
  private static final int LONGEST_DELAY = 20;
  private static final int LONGEST_BOUNCE = 5;
  private static final int MOST_EVENTS = 200;
  private static final int MOST_TICKS = 1000;
  private static final int LATEST_TIME = 100000;
  private static final int MOST_CHARACTERS = 60;
  private static final int HIGHEST_CHARACTER = 255;
  private static final int MOST_SAVED = 6;
  private static final int ALL_ARMATURES = 255;
  private static final int ALL_SUBJECTS = 0xFFFF;
  private static final int QUIET = 256;
  private static final int TEXT_ERROR = -10;
  private static final int NEVER = 0x7FFFFFFF;
  private static final int NO_SLOT = -1;

  private final Bank now;
  private final Past past;
  private final Text text;
  private final CircuitReader reader;
  // Questions are tried out on these two, which every call uses again: no call makes an object.
  private final Bank changed;
  private final Bank trial;

  public RelayBank() {
    now = new Bank();
    past = new Past();
    text = new Text();
    reader = new CircuitReader();
    changed = new Bank();
    trial = new Bank();
  }

  public int addRelay(int pickUp, int release, int bounce) {
    if (!areDelays(pickUp, release, bounce)) {
      return INVALID_ARGUMENT;
    }
    if (now.relays >= RELAYS) {
      return CAPACITY_EXCEEDED;
    }
    past.save(now);
    return now.add(pickUp, release, bounce);
  }

  public int setDelays(int relay, int pickUp, int release, int bounce) {
    if (!now.has(relay) || !areDelays(pickUp, release, bounce)) {
      return INVALID_ARGUMENT;
    }
    past.save(now);
    return now.putDelays(relay, pickUp, release, bounce) ? 1 : 0;
  }

  public int setCondition(int relay, int branch, int subject, int how) {
    if (!now.has(relay) || !isWithin(branch, 0, now.branchesOf(relay))) {
      return INVALID_ARGUMENT;
    }
    if (!isWithin(subject, 0, KEYS + now.relays - 1) || !isWithin(how, 0, 2)) {
      return INVALID_ARGUMENT;
    }
    if (branch >= BRANCHES) {
      return CAPACITY_EXCEEDED;
    }
    past.save(now);
    return now.putCondition(relay, branch, subject, how);
  }

  public int removeBranch(int relay, int branch) {
    if (!now.has(relay) || !isWithin(branch, 0, now.branchesOf(relay) - 1)) {
      return INVALID_ARGUMENT;
    }
    past.save(now);
    return now.dropBranch(relay, branch);
  }

  public int appendCharacter(int character) {
    if (!isWithin(character, 0, HIGHEST_CHARACTER)) {
      return INVALID_ARGUMENT;
    }
    if (text.length >= MOST_CHARACTERS) {
      return CAPACITY_EXCEEDED;
    }
    text.append((char) character);
    return text.length;
  }

  public int clearText() {
    int length = text.length;
    text.length = 0;
    return length;
  }

  public int load(int relay) {
    if (!now.has(relay)) {
      return INVALID_ARGUMENT;
    }
    int error = reader.read(text, now.relays);
    if (error != CircuitReader.NO_ERROR) {
      return TEXT_ERROR - error;
    }
    past.save(now);
    now.putCircuit(relay, reader.branches, reader.size);
    text.length = 0;
    return reader.size;
  }

  public int press(int key, int on) {
    if (!isKey(key) || !isWithin(on, 0, 1)) {
      return INVALID_ARGUMENT;
    }
    if (isIn(now.keys, key) == (on == 1)) {
      return ILLEGAL_STATE;
    }
    past.save(now);
    return now.turnKey(key);
  }

  public int setFault(int relay, int fault) {
    if (!now.has(relay) || !isWithin(fault, 0, 2)) {
      return INVALID_ARGUMENT;
    }
    past.save(now);
    int before = now.faultOf(relay);
    now.putFault(relay, fault);
    return before;
  }

  public int stick(int relay, int on) {
    if (!now.has(relay) || !isWithin(on, 0, 1)) {
      return INVALID_ARGUMENT;
    }
    past.save(now);
    int before = bitOf(now.stuck, relay);
    now.stuck = on == 1 ? now.stuck | (1 << relay) : now.stuck & ~(1 << relay);
    return before;
  }

  public int step() {
    int slot = now.nextSlot(false);
    if (slot == NO_SLOT) {
      return ILLEGAL_STATE;
    }
    past.save(now);
    int kind = now.kindOf(slot);
    now.happen(slot);
    return 10 * Bank.relayOf(slot) + kind;
  }

  public int settle(int events) {
    if (!isWithin(events, 1, MOST_EVENTS)) {
      return INVALID_ARGUMENT;
    }
    past.save(now);
    return now.run(events, NEVER, false);
  }

  public int pass(int ticks) {
    if (!isWithin(ticks, 1, MOST_TICKS)) {
      return INVALID_ARGUMENT;
    }
    int end = now.time + ticks;
    if (end > LATEST_TIME) {
      return CAPACITY_EXCEEDED;
    }
    trial.copy(now);
    int events = trial.run(MOST_EVENTS + 1, end, false);
    if (events > MOST_EVENTS) {
      return CAPACITY_EXCEEDED;
    }
    past.save(now);
    now.copy(trial);
    now.time = end;
    return events;
  }

  public int count(int what) {
    switch (what) {
      case 0: return now.relays;
      case 1: return now.time;
      case 2: return now.waiting();
      case 3: return now.keys;
      case 4: return now.fed;
      case 5: return now.attracted;
      case 6: return now.closedContacts();
      case 7: return now.bouncing;
      case 8: return text.length;
      case 9: return past.size;
      default: return INVALID_ARGUMENT;
    }
  }

  public int relay(int relay, int what) {
    if (!now.has(relay)) {
      return INVALID_ARGUMENT;
    }
    switch (what) {
      case 0: return at(now.pickUps, relay);
      case 1: return at(now.releases, relay);
      case 2: return at(now.bounces, relay);
      case 3: return now.branchesOf(relay);
      case 4: return now.faultOf(relay);
      case 5: return bitOf(now.stuck, relay);
      case 6: return now.concerns(relay, KEYS + relay) ? 1 : 0;
      case 7: return now.conducts(relay, now.failing()) ? 1 : 0;
      default: return INVALID_ARGUMENT;
    }
  }

  public int condition(int relay, int branch, int subject) {
    if (!now.has(relay) || !isWithin(branch, 0, now.branchesOf(relay) - 1)) {
      return INVALID_ARGUMENT;
    }
    if (!isWithin(subject, 0, SUBJECTS - 1)) {
      return INVALID_ARGUMENT;
    }
    return Branch.howOf(now.branchAt(relay, branch), subject);
  }

  public int event(int index, int part) {
    if (index < 0 || !isWithin(part, 0, 2)) {
      return INVALID_ARGUMENT;
    }
    int slot = now.slotAt(index);
    if (slot == NO_SLOT) {
      return NONE;
    }
    switch (part) {
      case 0: return at(now.dues, slot);
      case 1: return Bank.relayOf(slot);
      default: return now.kindOf(slot);
    }
  }

  public int outcome(int reverse, int events) {
    if (!isWithin(reverse, 0, 1) || !isWithin(events, 1, MOST_EVENTS)) {
      return INVALID_ARGUMENT;
    }
    return endingOf(now, events, reverse == 1);
  }

  public int isRace() {
    return raceIn(now);
  }

  public int raceBy(int key) {
    if (!isKey(key)) {
      return INVALID_ARGUMENT;
    }
    changed.copy(now);
    changed.turnKey(key);
    return raceIn(changed);
  }

  public int hazards(int key) {
    if (!isKey(key)) {
      return INVALID_ARGUMENT;
    }
    trial.copy(now);
    trial.turnKey(key);
    int alwaysFed = trial.fed;
    for (int events = 0; events < MOST_EVENTS && trial.run(1, NEVER, false) == 1; events++) {
      alwaysFed &= trial.fed;
    }
    return trial.isQuiet() ? now.fed & trial.fed & ~alwaysFed : NONE;
  }

  public int stableStates() {
    trial.copy(now);
    trial.bouncing = 0;
    int sets = 1 << now.relays;
    int stable = 0;
    for (int set = 0; set < sets; set++) {
      trial.attracted = set;
      if (((set ^ now.attracted) & now.stuck) == 0 && trial.isStable()) {
        stable++;
      }
    }
    return stable;
  }

  public int explain(int seen) {
    if (!isWithin(seen, 0, ALL_ARMATURES)) {
      return INVALID_ARGUMENT;
    }
    int faults = 0;
    for (int relay = 0; relay < now.relays; relay++) {
      for (int fault = 1; fault <= 2 && now.faultOf(relay) == 0; fault++) {
        changed.copy(now);
        changed.putFault(relay, fault);
        if (endingOf(changed, MOST_EVENTS, false) == seen + QUIET) {
          faults |= 1 << (2 * relay + fault - 1);
        }
      }
    }
    return faults;
  }

  public int undo() {
    return past.restore(now) ? past.size : ILLEGAL_STATE;
  }

  private int endingOf(Bank start, int events, boolean reverse) {
    trial.copy(start);
    trial.run(events, NEVER, reverse);
    return trial.attracted + (trial.isQuiet() ? QUIET : 0);
  }

  private int raceIn(Bank start) {
    int normal = endingOf(start, MOST_EVENTS, false);
    return normal != endingOf(start, MOST_EVENTS, true) ? 1 : 0;
  }

  private static boolean isKey(int key) {
    return isWithin(key, 0, KEYS - 1);
  }

  private static boolean areDelays(int pickUp, int release, int bounce) {
    return isWithin(pickUp, 1, LONGEST_DELAY) && isWithin(release, 1, LONGEST_DELAY)
        && isWithin(bounce, 0, LONGEST_BOUNCE);
  }

  private static boolean isWithin(int value, int least, int most) {
    return least <= value && value <= most;
  }

  private static int bitOf(int set, int member) {
    return (set >>> member) & 1;
  }

  private static boolean isIn(int set, int member) {
    return ((set >>> member) & 1) == 1;
  }

  private static int at(int[] row, int index) {
    return 0 <= index && index < row.length ? row[index] : 0;
  }

  private static void put(int[] row, int index, int value) {
    if (0 <= index && index < row.length) {
      row[index] = value;
    }
  }

  /**
   * A branch is one number, so that a single "and" tells whether it conducts: bit s is a plain
   * condition of the subject s, bit 16 + s an inverted one.
   */
  private static final class Branch {
    private Branch() {
    }

    static int bit(int subject, int how) {
      switch (how) {
        case 1: return 1 << subject;
        case 2: return 1 << (SUBJECTS + subject);
        default: return 0;
      }
    }

    static int howOf(int branch, int subject) {
      if ((branch & bit(subject, 1)) != 0) {
        return 1;
      }
      return (branch & bit(subject, 2)) != 0 ? 2 : 0;
    }

    static int with(int branch, int subject, int how) {
      int others = branch & ~(bit(subject, 1) | bit(subject, 2));
      return others | bit(subject, how);
    }
  }

  /**
   * One state of the bank, which is all that undo() restores. Each relay has two slots for events:
   * 2 * relay for its armature (kind 0 or 1), 2 * relay + 1 for the end of its bounce (kind 2).
   */
  private static final class Bank {
    private final int[] pickUps = new int[RELAYS];
    private final int[] releases = new int[RELAYS];
    private final int[] bounces = new int[RELAYS];
    private final int[] sizes = new int[RELAYS];
    private final int[] branches = new int[RELAYS * BRANCHES];
    private final int[] dues = new int[2 * RELAYS];
    private int relays;
    private int time;
    private int keys;
    private int fed;
    private int attracted;
    private int bouncing;
    private int stuck;
    private int alwaysOpen;
    private int alwaysClosed;

    Bank() {
      for (int slot = 0; slot < dues.length; slot++) {
        dues[slot] = NEVER;
      }
    }

    void copy(Bank other) {
      System.arraycopy(other.pickUps, 0, pickUps, 0, RELAYS);
      System.arraycopy(other.releases, 0, releases, 0, RELAYS);
      System.arraycopy(other.bounces, 0, bounces, 0, RELAYS);
      System.arraycopy(other.sizes, 0, sizes, 0, RELAYS);
      System.arraycopy(other.branches, 0, branches, 0, RELAYS * BRANCHES);
      System.arraycopy(other.dues, 0, dues, 0, 2 * RELAYS);
      relays = other.relays;
      time = other.time;
      keys = other.keys;
      fed = other.fed;
      attracted = other.attracted;
      bouncing = other.bouncing;
      stuck = other.stuck;
      alwaysOpen = other.alwaysOpen;
      alwaysClosed = other.alwaysClosed;
    }

    boolean has(int relay) {
      return isWithin(relay, 0, relays - 1);
    }

    int add(int pickUp, int release, int bounce) {
      int relay = relays;
      relays++;
      putDelays(relay, pickUp, release, bounce);
      return relay;
    }

    boolean putDelays(int relay, int pickUp, int release, int bounce) {
      boolean isSame = at(pickUps, relay) == pickUp && at(releases, relay) == release
          && at(bounces, relay) == bounce;
      put(pickUps, relay, pickUp);
      put(releases, relay, release);
      put(bounces, relay, bounce);
      return !isSame;
    }

    int branchesOf(int relay) {
      return at(sizes, relay);
    }

    int branchAt(int relay, int branch) {
      return at(branches, relay * BRANCHES + branch);
    }

    private void putBranch(int relay, int branch, int conditions) {
      put(branches, relay * BRANCHES + branch, conditions);
    }

    int putCondition(int relay, int branch, int subject, int how) {
      boolean isNew = branch == branchesOf(relay);
      int old = isNew ? 0 : branchAt(relay, branch);
      if (isNew) {
        put(sizes, relay, branch + 1);
      }
      putBranch(relay, branch, Branch.with(old, subject, how));
      lookAtCoils();
      return Branch.howOf(old, subject);
    }

    int dropBranch(int relay, int branch) {
      int left = branchesOf(relay) - 1;
      for (int behind = branch; behind < left; behind++) {
        putBranch(relay, behind, branchAt(relay, behind + 1));
      }
      put(sizes, relay, left);
      lookAtCoils();
      return left;
    }

    void putCircuit(int relay, int[] circuit, int size) {
      for (int branch = 0; branch < size; branch++) {
        putBranch(relay, branch, at(circuit, branch));
      }
      put(sizes, relay, size);
      lookAtCoils();
    }

    boolean concerns(int relay, int subject) {
      int size = branchesOf(relay);
      for (int branch = 0; branch < size; branch++) {
        if (Branch.howOf(branchAt(relay, branch), subject) != 0) {
          return true;
        }
      }
      return false;
    }

    int turnKey(int key) {
      keys ^= 1 << key;
      return lookAtCoils();
    }

    int faultOf(int relay) {
      return isIn(alwaysOpen, relay) ? 1 : isIn(alwaysClosed, relay) ? 2 : 0;
    }

    void putFault(int relay, int fault) {
      int bit = 1 << relay;
      alwaysOpen = fault == 1 ? alwaysOpen | bit : alwaysOpen & ~bit;
      alwaysClosed = fault == 2 ? alwaysClosed | bit : alwaysClosed & ~bit;
      lookAtCoils();
    }

    int closedContacts() {
      return (attracted & ~bouncing & ~alwaysOpen) | alwaysClosed;
    }

    /** The conditions that do not hold, in the bits of a branch. */
    int failing() {
      int closed = keys | (closedContacts() << KEYS);
      return (closed << SUBJECTS) | (~closed & ALL_SUBJECTS);
    }

    boolean conducts(int relay, int failing) {
      int first = relay * BRANCHES;
      int size = at(sizes, relay);
      for (int branch = 0; branch < size; branch++) {
        if ((at(branches, first + branch) & failing) == 0) {
          return true;
        }
      }
      return false;
    }

    boolean isStable() {
      int failing = failing();
      for (int relay = 0; relay < relays; relay++) {
        if (!isIn(stuck, relay) && conducts(relay, failing) != isIn(attracted, relay)) {
          return false;
        }
      }
      return true;
    }

    private int lookAtCoils() {
      int failing = failing();
      int turned = 0;
      for (int relay = 0; relay < relays; relay++) {
        if (conducts(relay, failing) != isIn(fed, relay)) {
          turnCoil(relay);
          turned++;
        }
      }
      return turned;
    }

    // An event that waited for the armature told of the coil as it was, so it goes in any case.
    private void turnCoil(int relay) {
      fed ^= 1 << relay;
      int due = NEVER;
      if (isIn(fed ^ attracted, relay)) {
        due = time + at(isIn(fed, relay) ? pickUps : releases, relay);
      }
      put(dues, 2 * relay, due);
    }

    static int relayOf(int slot) {
      return slot >> 1;
    }

    private static boolean isBounceEnd(int slot) {
      return (slot & 1) == 1;
    }

    // A coil that turns takes the armature's old event away, so the coil tells the kind of the one
    // that waits.
    int kindOf(int slot) {
      if (isBounceEnd(slot)) {
        return 2;
      }
      return isIn(fed, relayOf(slot)) ? 0 : 1;
    }

    int waiting() {
      int events = 0;
      for (int slot = 0; slot < dues.length; slot++) {
        if (dues[slot] != NEVER) {
          events++;
        }
      }
      return events;
    }

    boolean isQuiet() {
      return nextSlot(false) == NO_SLOT;
    }

    int nextSlot(boolean reverse) {
      int next = NO_SLOT;
      int least = NEVER;
      for (int place = 0; place < relays; place++) {
        int slot = 2 * (reverse ? relays - 1 - place : place);
        int armature = at(dues, slot);
        int bounceEnd = at(dues, slot + 1);
        if (armature < least) {
          next = slot;
          least = armature;
        }
        if (bounceEnd < least) {
          next = slot + 1;
          least = bounceEnd;
        }
      }
      return next;
    }

    int slotAt(int index) {
      for (int slot = 0; slot < dues.length; slot++) {
        if (dues[slot] != NEVER && eventsBefore(slot) == index) {
          return slot;
        }
      }
      return NO_SLOT;
    }

    private int eventsBefore(int slot) {
      int due = at(dues, slot);
      int events = 0;
      for (int other = 0; other < dues.length; other++) {
        if (dues[other] < due || (dues[other] == due && other < slot)) {
          events++;
        }
      }
      return events;
    }

    void happen(int slot) {
      int relay = relayOf(slot);
      time = at(dues, slot);
      put(dues, slot, NEVER);
      if (isBounceEnd(slot)) {
        bouncing &= ~(1 << relay);
      } else if (!isIn(stuck, relay)) {
        moveArmature(relay);
      }
      lookAtCoils();
    }

    private void moveArmature(int relay) {
      attracted ^= 1 << relay;
      int bounce = at(bounces, relay);
      if (bounce > 0) {
        bouncing |= 1 << relay;
        put(dues, 2 * relay + 1, time + bounce);
      }
    }

    /** Answers how many events happened: at most a number of them, and none later than the end. */
    int run(int most, int end, boolean reverse) {
      for (int events = 0; events < most; events++) {
        int slot = nextSlot(reverse);
        if (slot == NO_SLOT || at(dues, slot) > end) {
          return events;
        }
        happen(slot);
      }
      return most;
    }
  }

  /** The states that undo() can restore, in a ring: a seventh takes the place of the oldest. */
  private static final class Past {
    private final Bank[] banks = new Bank[MOST_SAVED];
    private int oldest;
    private int size;

    Past() {
      for (int place = 0; place < banks.length; place++) {
        banks[place] = new Bank();
      }
    }

    private Bank bankAt(int age) {
      int place = Math.floorMod(oldest + age, MOST_SAVED);
      return place < banks.length ? banks[place] : null;
    }

    void save(Bank bank) {
      if (size == MOST_SAVED) {
        oldest = Math.floorMod(oldest + 1, MOST_SAVED);
        size--;
      }
      Bank free = bankAt(size);
      if (free != null) {
        free.copy(bank);
        size++;
      }
    }

    boolean restore(Bank bank) {
      Bank newest = size > 0 ? bankAt(size - 1) : null;
      if (newest == null) {
        return false;
      }
      bank.copy(newest);
      size--;
      return true;
    }
  }

  private static final class Text {
    private final char[] characters = new char[MOST_CHARACTERS];
    private int length;

    void append(char character) {
      if (0 <= length && length < characters.length) {
        characters[length] = character;
        length++;
      }
    }

    char characterAt(int offset) {
      return 0 <= offset && offset < characters.length ? characters[offset] : 0;
    }
  }

  /** Reads a circuit from a text, a character at a time; its place tells what may stand next. */
  private static final class CircuitReader {
    private static final int NO_ERROR = -1;
    private static final int AT_START = 0;
    private static final int AT_BRANCH = 1;
    private static final int AT_CONDITION = 2;
    private static final int BEHIND_SLASH = 3;
    private static final int BEHIND_ONE = 4;
    private static final int BEHIND_ZERO = 5;

    private final int[] branches = new int[BRANCHES];
    private int size;
    private int relays;
    private int place;

    /** Answers the error position, or NO_ERROR: then the circuit stands in branches. */
    int read(Text text, int relaysThere) {
      relays = relaysThere;
      size = 0;
      place = AT_START;
      for (int offset = 0; offset < text.length; offset++) {
        char character = text.characterAt(offset);
        if (character != ' ' && !take(character)) {
          return offset;
        }
      }
      boolean isComplete = place == AT_CONDITION || place == BEHIND_ONE || place == BEHIND_ZERO;
      return isComplete ? NO_ERROR : text.length;
    }

    private boolean take(char character) {
      switch (place) {
        case AT_START: return character == '0' ? goTo(BEHIND_ZERO) : beginBranch(character);
        case AT_BRANCH: return beginBranch(character);
        case AT_CONDITION: return character == '+' ? goTo(AT_BRANCH) : beginCondition(character);
        case BEHIND_SLASH: return takeLetter(character, 2);
        case BEHIND_ONE: return character == '+' && goTo(AT_BRANCH);
        default: return false;
      }
    }

    private boolean goTo(int next) {
      place = next;
      return true;
    }

    private boolean beginBranch(char character) {
      if (size >= BRANCHES) {
        return false;
      }
      put(branches, size, 0);
      size++;
      return character == '1' ? goTo(BEHIND_ONE) : beginCondition(character);
    }

    private boolean beginCondition(char character) {
      return character == '/' ? goTo(BEHIND_SLASH) : takeLetter(character, 1);
    }

    private boolean takeLetter(char letter, int how) {
      int subject = subjectOf(letter);
      int branch = at(branches, size - 1);
      if (subject < 0 || Branch.howOf(branch, subject) == 3 - how) {
        return false;
      }
      put(branches, size - 1, Branch.with(branch, subject, how));
      return goTo(AT_CONDITION);
    }

    private int subjectOf(char letter) {
      if (isWithin(letter, 'a', 'a' + KEYS - 1)) {
        return letter - 'a';
      }
      return isWithin(letter, 'A', 'A' + relays - 1) ? KEYS + letter - 'A' : -1;
    }
  }
}
