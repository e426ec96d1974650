import java.util.ArrayList;
import java.util.Comparator;
import java.util.HashMap;
import java.util.List;
import java.util.Map;
import java.util.regex.Matcher;
import java.util.regex.Pattern;

/** A second bank, written from the document in the plainest way, for comparison with the program. */
final class SlowBank {
  static final class Event {
    int time;
    int kind;
    int relay;

    Event(int time, int kind, int relay) {
      this.time = time;
      this.kind = kind;
      this.relay = relay;
    }
  }

  static final class Relay {
    int pickUp;
    int release;
    int bounce;
    int fault;
    boolean isAttracted;
    boolean isFed;
    boolean bounces;
    boolean isStuck;
    /** For each branch: subject to 1 (plain) or 2 (inverted). */
    List<Map<Integer, Integer>> circuit = new ArrayList<>();

    Relay twin() {
      Relay other = new Relay();
      other.pickUp = pickUp;
      other.release = release;
      other.bounce = bounce;
      other.fault = fault;
      other.isAttracted = isAttracted;
      other.isFed = isFed;
      other.bounces = bounces;
      other.isStuck = isStuck;
      for (Map<Integer, Integer> branch : circuit) {
        other.circuit.add(new HashMap<>(branch));
      }
      return other;
    }
  }

  static final class State {
    int time;
    boolean[] keys = new boolean[8];
    List<Relay> relays = new ArrayList<>();
    List<Event> events = new ArrayList<>();

    State twin() {
      State other = new State();
      other.time = time;
      other.keys = keys.clone();
      for (Relay relay : relays) {
        other.relays.add(relay.twin());
      }
      for (Event event : events) {
        other.events.add(new Event(event.time, event.kind, event.relay));
      }
      return other;
    }

    boolean isClosed(Relay relay) {
      if (relay.fault != 0) {
        return relay.fault == 2;
      }
      return relay.isAttracted && !relay.bounces;
    }

    boolean holds(int subject, int how) {
      boolean on = subject < 8 ? keys[subject] : isClosed(relays.get(subject - 8));
      return how == 1 ? on : !on;
    }

    boolean conducts(Relay relay) {
      for (Map<Integer, Integer> branch : relay.circuit) {
        boolean all = true;
        for (Map.Entry<Integer, Integer> condition : branch.entrySet()) {
          all = all && holds(condition.getKey(), condition.getValue());
        }
        if (all) {
          return true;
        }
      }
      return false;
    }

    void takeAway(int relay, int kind) {
      events.removeIf(e -> e.relay == relay && e.kind == kind);
    }

    int look() {
      int turned = 0;
      for (int i = 0; i < relays.size(); i++) {
        Relay relay = relays.get(i);
        boolean conducts = conducts(relay);
        if (conducts && !relay.isFed) {
          relay.isFed = true;
          turned++;
          takeAway(i, 1);
          if (!relay.isAttracted) {
            events.add(new Event(time + relay.pickUp, 0, i));
          }
        } else if (!conducts && relay.isFed) {
          relay.isFed = false;
          turned++;
          takeAway(i, 0);
          if (relay.isAttracted) {
            events.add(new Event(time + relay.release, 1, i));
          }
        }
      }
      return turned;
    }

    List<Event> inOrder(boolean reverse) {
      List<Event> sorted = new ArrayList<>(events);
      Comparator<Event> byTime = Comparator.comparingInt(e -> e.time);
      Comparator<Event> byRelay = Comparator.comparingInt(e -> reverse ? -e.relay : e.relay);
      sorted.sort(byTime.thenComparing(byRelay).thenComparing(Comparator.comparingInt(e -> e.kind)));
      return sorted;
    }

    Event happen(boolean reverse) {
      Event event = inOrder(reverse).get(0);
      events.remove(event);
      time = event.time;
      Relay relay = relays.get(event.relay);
      if (event.kind == 2) {
        relay.bounces = false;
      } else if (!relay.isStuck) {
        relay.isAttracted = event.kind == 0;
        if (relay.bounce > 0) {
          relay.bounces = true;
          takeAway(event.relay, 2);
          events.add(new Event(time + relay.bounce, 2, event.relay));
        }
      }
      look();
      return event;
    }

    int run(int most, boolean reverse) {
      int happened = 0;
      while (happened < most && !events.isEmpty()) {
        happen(reverse);
        happened++;
      }
      return happened;
    }

    int fed() {
      int set = 0;
      for (int i = 0; i < relays.size(); i++) {
        set |= relays.get(i).isFed ? 1 << i : 0;
      }
      return set;
    }

    int attracted() {
      int set = 0;
      for (int i = 0; i < relays.size(); i++) {
        set |= relays.get(i).isAttracted ? 1 << i : 0;
      }
      return set;
    }

    int ending(int most, boolean reverse) {
      State other = twin();
      other.run(most, reverse);
      return other.attracted() + (other.events.isEmpty() ? 256 : 0);
    }

    int race() {
      return ending(200, false) == ending(200, true) ? 0 : 1;
    }
  }

  private State now = new State();
  private final List<State> saved = new ArrayList<>();
  private String text = "";

  private void save() {
    saved.add(now.twin());
    if (saved.size() > 6) {
      saved.remove(0);
    }
  }

  private boolean isRelay(int relay) {
    return relay >= 0 && relay < now.relays.size();
  }

  private static boolean out(int value, int least, int most) {
    return value < least || value > most;
  }

  private static boolean wrongDelays(int pickUp, int release, int bounce) {
    return out(pickUp, 1, 20) || out(release, 1, 20) || out(bounce, 0, 5);
  }

  int addRelay(int pickUp, int release, int bounce) {
    if (wrongDelays(pickUp, release, bounce)) {
      return -1;
    }
    if (now.relays.size() == 8) {
      return -3;
    }
    save();
    Relay relay = new Relay();
    relay.pickUp = pickUp;
    relay.release = release;
    relay.bounce = bounce;
    now.relays.add(relay);
    now.look();
    return now.relays.size() - 1;
  }

  int setDelays(int relay, int pickUp, int release, int bounce) {
    if (!isRelay(relay) || wrongDelays(pickUp, release, bounce)) {
      return -1;
    }
    save();
    Relay it = now.relays.get(relay);
    boolean changes = it.pickUp != pickUp || it.release != release || it.bounce != bounce;
    it.pickUp = pickUp;
    it.release = release;
    it.bounce = bounce;
    return changes ? 1 : 0;
  }

  int setCondition(int relay, int branch, int subject, int how) {
    if (!isRelay(relay)) {
      return -1;
    }
    List<Map<Integer, Integer>> circuit = now.relays.get(relay).circuit;
    if (out(branch, 0, circuit.size()) || out(subject, 0, 15) || out(how, 0, 2)) {
      return -1;
    }
    if (subject >= 8 && !isRelay(subject - 8)) {
      return -1;
    }
    if (branch == 6) {
      return -3;
    }
    save();
    if (branch == circuit.size()) {
      circuit.add(new HashMap<>());
    }
    Integer before = circuit.get(branch).remove(subject);
    if (how != 0) {
      circuit.get(branch).put(subject, how);
    }
    now.look();
    return before == null ? 0 : before;
  }

  int removeBranch(int relay, int branch) {
    if (!isRelay(relay) || out(branch, 0, now.relays.get(relay).circuit.size() - 1)) {
      return -1;
    }
    save();
    now.relays.get(relay).circuit.remove(branch);
    now.look();
    return now.relays.get(relay).circuit.size();
  }

  int appendCharacter(int character) {
    if (out(character, 0, 255)) {
      return -1;
    }
    if (text.length() == 60) {
      return -3;
    }
    text += (char) character;
    return text.length();
  }

  int clearText() {
    int length = text.length();
    text = "";
    return length;
  }

  /** A prefix is sound if some text begins with it; the seventh branch is one that nothing begins. */
  private int firstWrongCharacter() {
    int relays = now.relays.size();
    String letter = " *[a-h" + "ABCDEFGH".substring(0, relays) + "] *";
    String branch = "( *1 *|( */?" + letter + ")+)";
    String nothing = "\u0100";
    Pattern pattern = Pattern.compile(
        " *0 *|" + branch + "(\\+" + branch + "){0,5}(\\+ *" + nothing + ")?");
    for (int length = 1; length <= text.length(); length++) {
      Matcher matcher = pattern.matcher(text.substring(0, length));
      if (!matcher.matches() && !matcher.hitEnd()) {
        return length - 1;
      }
    }
    return pattern.matcher(text).matches() ? -1 : text.length();
  }

  private static int subject(char letter) {
    return letter >= 'a' ? letter - 'a' : letter - 'A' + 8;
  }

  int load(int relay) {
    if (!isRelay(relay)) {
      return -1;
    }
    int error = firstWrongCharacter();
    int end = error < 0 ? text.length() : error;
    List<Map<Integer, Integer>> circuit = new ArrayList<>();
    circuit.add(new HashMap<>());
    int how = 1;
    for (int i = 0; i < end; i++) {
      char c = text.charAt(i);
      if (c == '+') {
        circuit.add(new HashMap<>());
      } else if (c == '/') {
        how = 2;
      } else if (Character.isLetter(c)) {
        Integer old = circuit.get(circuit.size() - 1).put(subject(c), how);
        if (old != null && old != how) {
          return -10 - i;
        }
        how = 1;
      }
    }
    if (error >= 0) {
      return -10 - error;
    }
    save();
    if (text.indexOf('0') >= 0) {
      circuit.clear();
    }
    now.relays.get(relay).circuit = circuit;
    text = "";
    now.look();
    return circuit.size();
  }

  int press(int key, int on) {
    if (out(key, 0, 7) || out(on, 0, 1)) {
      return -1;
    }
    if (now.keys[key] == (on == 1)) {
      return -2;
    }
    save();
    now.keys[key] = on == 1;
    return now.look();
  }

  int setFault(int relay, int fault) {
    if (!isRelay(relay) || out(fault, 0, 2)) {
      return -1;
    }
    save();
    int before = now.relays.get(relay).fault;
    now.relays.get(relay).fault = fault;
    now.look();
    return before;
  }

  int stick(int relay, int on) {
    if (!isRelay(relay) || out(on, 0, 1)) {
      return -1;
    }
    save();
    boolean before = now.relays.get(relay).isStuck;
    now.relays.get(relay).isStuck = on == 1;
    now.look();
    return before ? 1 : 0;
  }

  int step() {
    if (now.events.isEmpty()) {
      return -2;
    }
    save();
    Event event = now.happen(false);
    return 10 * event.relay + event.kind;
  }

  int settle(int events) {
    if (out(events, 1, 200)) {
      return -1;
    }
    save();
    return now.run(events, false);
  }

  int pass(int ticks) {
    if (out(ticks, 1, 1000)) {
      return -1;
    }
    State later = now.twin();
    int end = later.time + ticks;
    int events = 0;
    while (events <= 200 && !later.events.isEmpty() && later.inOrder(false).get(0).time <= end) {
      later.happen(false);
      events++;
    }
    if (end > 100000 || events > 200) {
      return -3;
    }
    save();
    later.time = end;
    now = later;
    return events;
  }

  int count(int what) {
    int set = 0;
    switch (what) {
      case 0: return now.relays.size();
      case 1: return now.time;
      case 2: return now.events.size();
      case 3:
        for (int key = 0; key < 8; key++) {
          set += now.keys[key] ? 1 << key : 0;
        }
        return set;
      case 4: return now.fed();
      case 5: return now.attracted();
      case 6:
        for (int i = 0; i < now.relays.size(); i++) {
          set += now.isClosed(now.relays.get(i)) ? 1 << i : 0;
        }
        return set;
      case 7:
        for (int i = 0; i < now.relays.size(); i++) {
          set += now.relays.get(i).bounces ? 1 << i : 0;
        }
        return set;
      case 8: return text.length();
      case 9: return saved.size();
      default: return -1;
    }
  }

  int relay(int relay, int what) {
    if (!isRelay(relay)) {
      return -1;
    }
    Relay it = now.relays.get(relay);
    switch (what) {
      case 0: return it.pickUp;
      case 1: return it.release;
      case 2: return it.bounce;
      case 3: return it.circuit.size();
      case 4: return it.fault;
      case 5: return it.isStuck ? 1 : 0;
      case 6: return it.circuit.stream().anyMatch(b -> b.containsKey(8 + relay)) ? 1 : 0;
      case 7: return now.conducts(it) ? 1 : 0;
      default: return -1;
    }
  }

  int condition(int relay, int branch, int subject) {
    if (!isRelay(relay) || out(branch, 0, now.relays.get(relay).circuit.size() - 1)
        || out(subject, 0, 15)) {
      return -1;
    }
    return now.relays.get(relay).circuit.get(branch).getOrDefault(subject, 0);
  }

  int event(int index, int part) {
    if (index < 0 || out(part, 0, 2)) {
      return -1;
    }
    if (index >= now.events.size()) {
      return -9;
    }
    Event event = now.inOrder(false).get(index);
    return part == 0 ? event.time : part == 1 ? event.relay : event.kind;
  }

  int outcome(int reverse, int events) {
    if (out(reverse, 0, 1) || out(events, 1, 200)) {
      return -1;
    }
    return now.ending(events, reverse == 1);
  }

  int isRace() {
    return now.race();
  }

  private State behind(int key) {
    State state = now.twin();
    state.keys[key] = !state.keys[key];
    state.look();
    return state;
  }

  int raceBy(int key) {
    return out(key, 0, 7) ? -1 : behind(key).race();
  }

  int hazards(int key) {
    if (out(key, 0, 7)) {
      return -1;
    }
    State state = behind(key);
    int unfed = 255 & ~state.fed();
    for (int i = 0; i < 200 && !state.events.isEmpty(); i++) {
      state.happen(false);
      unfed |= 255 & ~state.fed();
    }
    return state.events.isEmpty() ? now.fed() & state.fed() & unfed : -9;
  }

  int stableStates() {
    int found = 0;
    for (int set = 0; set < 1 << now.relays.size(); set++) {
      State state = now.twin();
      boolean isStable = true;
      for (int i = 0; i < state.relays.size(); i++) {
        Relay relay = state.relays.get(i);
        boolean inSet = (set >> i & 1) == 1;
        relay.bounces = false;
        isStable = isStable && (!relay.isStuck || relay.isAttracted == inSet);
        relay.isAttracted = inSet;
      }
      for (Relay relay : state.relays) {
        isStable = isStable && (relay.isStuck || relay.isAttracted == state.conducts(relay));
      }
      found += isStable ? 1 : 0;
    }
    return found;
  }

  int explain(int seen) {
    if (out(seen, 0, 255)) {
      return -1;
    }
    int set = 0;
    for (int i = 0; i < now.relays.size(); i++) {
      for (int fault = 1; fault <= 2; fault++) {
        State state = now.twin();
        if (state.relays.get(i).fault == 0) {
          state.relays.get(i).fault = fault;
          state.look();
          set |= state.ending(200, false) == seen + 256 ? 1 << 2 * i + fault - 1 : 0;
        }
      }
    }
    return set;
  }

  int undo() {
    if (saved.isEmpty()) {
      return -2;
    }
    now = saved.remove(saved.size() - 1);
    return saved.size();
  }
}
