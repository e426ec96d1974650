/** The sentences of "Time", "Faults" and "Races". */
final class TimeEdges {
  private final Edges e;

  TimeEdges(Edges edges) {
    e = edges;
  }

  void all() {
    e.below("Time");
    time();
    kinds();
    atMostTwoEach();
    whenCoilsAreLookedAt();
    fedAtRest();
    notFedAnyMore();
    notFedAttracted();
    lookingChangesNoContact();
    armatureChanges();
    bounce();
    bouncingIsOpen();
    bounceEnds();
    behindEachEvent();
    smallestTime();
    smallestRelay();
    reverseOrder();
    quiet();
    e.below("Faults");
    faults();
    stuck();
    stuckBounceEnds();
    e.below("Races");
    runUntilQuiet();
    outcome();
    race();
  }

  private void time() {
    e.sentence("The time is a number of ticks, 0 at first.");
    RelayBank x = new RelayBank();
    e.due("at first", x.count(1), 0);
    x.addRelay(1, 1, 0);
    e.due("calls take none", x.count(1), 0);
    x.pass(1);
    e.due("a tick", x.count(1), 1);
  }

  private void kinds() {
    e.sentence("What happens is told by events");
    RelayBank x = Check.bank(2, 3, 1, "0", "a");
    x.press(0, 1);
    int[][] due = {{0, 2}, {2, 3}, {1, 6}, {2, 7}};
    for (int event = 0; event < 4; event++) {
      e.due("kind of event " + event, x.event(0, 2), due[event][0]);
      e.due("time of event " + event, x.event(0, 0), due[event][1]);
      e.due("relay of event " + event, x.event(0, 1), 1);
      e.due("event " + event, x.step(), 10 + due[event][0]);
      e.due("attracted behind " + event, x.count(5), event < 2 ? 2 : 0);
      if (event == 1) {
        x.press(0, 0);
      }
    }
  }

  private void atMostTwoEach() {
    e.sentence("At most one event with the kind 0 or 1");
    RelayBank x = Banks.eight(2, 2, 5, "a");
    x.press(0, 1);
    e.due("8 pick up", x.count(2), 8);
    x.press(0, 0);
    e.due("none", x.count(2), 0);
    x.press(0, 1);
    e.due("8 again", x.count(2), 8);
    x.settle(8);
    e.due("8 bounce", x.count(2), 8);
    x.press(0, 0);
    e.due("16 at the most", x.count(2), 16);
    e.due("the last one's time", x.event(15, 0), 7);
    e.due("the last one's relay", x.event(15, 1), 7);
    e.due("the last one's kind", x.event(15, 2), 2);
    e.due("no other", x.event(16, 0), -9);
    x.settle(8);
    e.due("the bounces begin again, once each", x.count(2), 8);
    e.due("the new ones", x.event(0, 0), 9);
    e.due("all of them", x.settle(200), 8);
  }

  private void whenCoilsAreLookedAt() {
    e.sentence("Whenever keys, armatures, bounces, faults, circuits or relays change");
    RelayBank x = Check.bank(2, 2, 2, "a", "A", "/A");
    x.press(0, 1);
    e.due("keys", x.count(4), 1 + 4);
    x.setFault(0, 2);
    e.due("faults", x.count(4), 1 + 2);
    x.setFault(0, 0);
    e.due("faults again", x.count(4), 1 + 4);
    x.pass(3);
    e.due("a bounce", x.count(4), 1 + 4);
    x.pass(1);
    e.due("a bounce that ends", x.count(4), 1 + 2);
    x.setCondition(2, 0, 8, 1);
    e.due("a condition", x.count(4), 7);
    x.removeBranch(2, 0);
    e.due("a branch less", x.count(4), 3);
    Check.load(x, 2, "1");
    e.due("a text", x.count(4), 7);
    x.addRelay(1, 1, 0);
    e.due("a relay more", x.count(4), 7);
    RelayBank y = Check.bank(2, 2, 0, "a", "A", "/B", "C");
    y.settle(200);
    y.press(0, 1);
    y.step();
    e.due("an armature, in a relay behind it", y.count(4), 1 + 2 + 4 + 8);
    RelayBank z = Check.bank(2, 2, 0, "B", "a");
    z.press(0, 1);
    z.step();
    e.due("an armature, in a relay before it", z.count(4), 3);
    RelayBank w = Check.bank(3, 2, 0, "a");
    w.press(0, 1);
    w.press(1, 1);
    w.pass(1);
    w.press(2, 1);
    e.due("a coil that stays fed has its old event", w.event(0, 0), 3);
  }

  private void fedAtRest() {
    e.sentence("an event of the kind 1 that waits for it is taken away");
    for (int pickUp : new int[] {1, 20}) {
      RelayBank x = Check.bank(pickUp, 20, 0, "a");
      x.pass(7);
      x.press(0, 1);
      e.due("at rest: attracted at", x.event(0, 0), 7 + pickUp);
      e.due("kind 0", x.event(0, 2), 0);
      x.settle(200);
      x.press(0, 0);
      e.due("a release waits", x.event(0, 2), 1);
      x.pass(19);
      x.press(0, 1);
      e.due("attracted: the release is taken away", x.count(2), 0);
      e.due("fed", x.count(4), 1);
      x.pass(1000);
      e.due("attracted still", x.count(5), 1);
    }
  }

  private void notFedAnyMore() {
    e.sentence("If its circuit does not conduct and its coil is fed");
    RelayBank x = Check.bank(2, 2, 0, "a", "/a");
    x.press(0, 1);
    e.due("one for the other", x.count(4), 1);
    x.press(0, 0);
    e.due("back", x.count(4), 2);
  }

  private void notFedAttracted() {
    e.sentence("an event of the kind 0 that waits for it is taken away");
    for (int release : new int[] {1, 20}) {
      RelayBank x = Check.bank(20, release, 0, "a");
      x.press(0, 1);
      x.pass(19);
      x.press(0, 0);
      e.due("at rest: the pick-up is taken away", x.count(2), 0);
      x.pass(1000);
      e.due("at rest still", x.count(5), 0);
      x.press(0, 1);
      x.settle(200);
      x.press(0, 0);
      e.due("attracted: released at", x.event(0, 0), 1039 + release);
      e.due("kind 1", x.event(0, 2), 1);
    }
  }

  private void lookingChangesNoContact() {
    e.sentence("(Looking at the coils changes no contact");
    RelayBank x = Check.bank(2, 2, 0, "aB", "aA", "/A");
    x.setFault(0, 2);
    e.due("by one key", x.press(0, 1), 1);
    e.due("fed", x.count(4), 2);
    e.due("closed", x.count(6), 1);
    RelayBank y = Check.bank(2, 2, 0, "a/B", "a/A", "0");
    e.due("both, whichever is first", y.press(0, 1), 2);
    e.due("no contact is closed", y.count(6), 0);
  }

  private void armatureChanges() {
    e.sentence("When an event happens, the armature changes;");
    RelayBank x = Banks.eight(1, 1, 0, "a");
    x.press(0, 1);
    for (int relay = 0; relay < 8; relay++) {
      e.due("relay " + relay, x.step(), 10 * relay);
      e.due("attracted", x.count(5), (2 << relay) - 1);
    }
    x.press(0, 0);
    for (int relay = 0; relay < 8; relay++) {
      e.due("relay " + relay, x.step(), 10 * relay + 1);
      e.due("attracted", x.count(5), 255 & -(2 << relay));
    }
  }

  private void bounce() {
    e.sentence("if the bounce of the relay is greater than 0");
    RelayBank none = Check.bank(2, 2, 0, "a");
    none.press(0, 1);
    none.step();
    e.due("bounce 0: no bounce", none.count(7), 0);
    e.due("bounce 0: no event", none.count(2), 0);
    for (int ticks : new int[] {1, 5}) {
      RelayBank x = Check.bank(2, 2, ticks, "a");
      x.press(0, 1);
      x.step();
      e.due("bounces", x.count(7), 1);
      e.due("for as many ticks", x.event(0, 0), 2 + ticks);
      e.due("kind 2", x.event(0, 2), 2);
      x.pass(ticks);
      e.due("the bounce ends", x.count(7), 0);
      x.press(0, 0);
      x.step();
      e.due("behind the release too", x.count(7), 1);
      e.due("for as many ticks", x.event(0, 0), 4 + 2 * ticks);
    }
    RelayBank y = Check.bank(2, 2, 5, "a");
    y.press(0, 1);
    y.step();
    y.press(0, 0);
    y.step();
    e.due("the old end is taken away", y.count(2), 1);
    e.due("a new one waits", y.event(0, 0), 9);
    y.pass(4);
    e.due("it bounces still", y.count(7), 1);
    y.pass(1);
    e.due("not any more", y.count(7), 0);
  }

  private void bouncingIsOpen() {
    e.sentence("A contact that bounces is open.");
    RelayBank x = Check.bank(2, 2, 5, "a", "A", "/A");
    x.press(0, 1);
    x.step();
    e.due("attracted and bouncing", x.count(5) & x.count(7) & 1, 1);
    e.due("open", x.count(6) & 1, 0);
    e.due("for circuits too", x.count(4), 1 + 4);
    x.press(0, 0);
    x.settle(2);
    e.due("released and bouncing", x.count(7) & 1, 1);
    e.due("open", x.count(6) & 1, 0);
  }

  private void bounceEnds() {
    e.sentence("When a bounce ends, the contact is as the armature tells again.");
    RelayBank x = Check.bank(2, 2, 5, "a");
    x.press(0, 1);
    x.settle(2);
    e.due("closed", x.count(6), 1);
    x.press(0, 0);
    x.settle(2);
    e.due("open", x.count(6), 0);
    e.due("not bouncing", x.count(7), 0);
    RelayBank y = Check.bank(2, 2, 5, "a");
    y.press(0, 1);
    y.step();
    y.setFault(0, 1);
    y.step();
    e.due("a fault is there still", y.count(6), 0);
  }

  private void behindEachEvent() {
    e.sentence("Behind each event the coils are looked at.");
    RelayBank x = Check.bank(2, 2, 3, "a", "A", "/A");
    x.setDelays(1, 20, 20, 0);
    x.setDelays(2, 1, 20, 0);
    x.press(0, 1);
    x.settle(2);
    e.due("kind 0: the contact bounces", x.count(4), 1 + 4);
    x.step();
    e.due("kind 2: it is closed", x.count(4), 1 + 2);
    e.due("the pick-up of 1 is told from then", x.event(0, 0), 25);
    x.press(0, 0);
    x.step();
    e.due("kind 1: it is open", x.count(4), 4);
    RelayBank y = Check.bank(1, 1, 0, "a/B", "a/A");
    y.press(0, 1);
    e.due("two wait", y.count(2), 2);
    y.step();
    e.due("one is taken away behind the other, at the same time", y.count(2), 0);
  }

  private void smallestTime() {
    e.sentence("Of the events that wait, the next one is that with the smallest time;");
    RelayBank x = Banks.eight(9, 9, 0, "a");
    for (int relay = 0; relay < 8; relay++) {
      x.setDelays(relay, 20 - relay, 1, 0);
    }
    x.press(0, 1);
    for (int relay = 7; relay >= 0; relay--) {
      e.due("the next relay", x.step(), 10 * relay);
      e.due("its time", x.count(1), 20 - relay);
    }
    RelayBank y = Check.bank(1, 1, 5, "a");
    y.press(0, 1);
    y.step();
    y.press(0, 0);
    e.due("kind 1 before kind 2 if it is sooner", y.step(), 1);
    RelayBank z = Check.bank(1, 9, 5, "a");
    z.press(0, 1);
    z.step();
    z.press(0, 0);
    e.due("kind 2 before kind 1 if it is sooner", z.step(), 2);
  }

  private void smallestRelay() {
    e.sentence("of several with the same time, the one of the smallest relay");
    RelayBank x = sixteenAtOnce();
    for (int index = 0; index < 16; index++) {
      e.due("time of " + index, x.event(index, 0), 4);
      e.due("relay of " + index, x.event(index, 1), index / 2);
      e.due("kind of " + index, x.event(index, 2), 1 + index % 2);
    }
    e.due("kind 1 of relay 0", x.step(), 1);
    e.due("its bounce ends later now: kind 1 of relay 1", x.step(), 11);
    e.due("attracted", x.count(5), 252);
    for (int relay = 0; relay < 8; relay++) {
      x.stick(relay, 1);
    }
    e.due("stuck: kind 1 of relay 2", x.step(), 21);
    e.due("stuck: kind 2 of relay 2", x.step(), 22);
    e.due("stuck: kind 1 of relay 3", x.step(), 31);
  }

  /** Eight releases and eight ends of bounces, all at the time 4. */
  private static RelayBank sixteenAtOnce() {
    RelayBank x = Banks.eight(2, 2, 2, "a");
    x.press(0, 1);
    x.settle(8);
    x.press(0, 0);
    return x;
  }

  private void reverseOrder() {
    e.sentence("(With the reverse order: the one of the greatest relay");
    RelayBank x = sixteenAtOnce();
    for (int events = 1; events <= 8; events++) {
      e.due("reverse, " + events + " events", x.outcome(1, events), 255 >> events);
      e.due("normal, " + events + " events", x.outcome(0, events), 255 & -(1 << events));
    }
    RelayBank y = Check.bank(3, 2, 0, "a/B", "a/A");
    y.setDelays(1, 4, 2, 0);
    y.press(0, 1);
    e.due("the smaller time is first all the same", y.outcome(1, 200), 257);
    RelayBank z = Check.bank(2, 2, 2, "a");
    z.press(0, 1);
    z.step();
    z.press(0, 0);
    e.due("kind 1 before kind 2, at the same time", z.outcome(1, 1), 0);
    e.due("and the bounce begun by it ends too", z.outcome(1, 2), 256);
  }

  private void quiet() {
    e.sentence("The bank is quiet if no event waits.");
    RelayBank x = Check.bank(2, 2, 3, "a");
    e.due("quiet", x.outcome(0, 1), 256);
    x.press(0, 1);
    e.due("a bounce waits behind one event", x.outcome(0, 1), 1);
    e.due("quiet behind two", x.outcome(0, 2), 257);
    x.step();
    e.due("not quiet while it bounces", x.step(), 2);
    e.due("quiet", x.step(), -2);
  }

  private void faults() {
    e.sentence("A contact can have a fault: 0 none");
    for (int fault = 0; fault <= 2; fault++) {
      RelayBank x = Check.bank(2, 2, 3, "a");
      x.setFault(0, fault);
      e.due("at rest, fault " + fault, x.count(6), fault == 2 ? 1 : 0);
      x.press(0, 1);
      x.step();
      e.due("bounces, fault " + fault, x.count(7), 1);
      e.due("bouncing, fault " + fault, x.count(6), fault == 2 ? 1 : 0);
      x.step();
      e.due("attracted, fault " + fault, x.count(5), 1);
      e.due("closed, fault " + fault, x.count(6), fault == 1 ? 0 : 1);
    }
  }

  private void stuck() {
    e.sentence("An armature can be stuck");
    RelayBank x = Check.bank(2, 2, 3, "a", "/A");
    x.settle(200);
    x.stick(0, 1);
    x.press(0, 1);
    e.due("kind 0 happens", x.step(), 0);
    e.due("at rest", x.count(5), 2);
    e.due("no bounce", x.count(7), 0);
    e.due("no event", x.count(2), 0);
    x.stick(0, 0);
    x.press(0, 0);
    x.press(0, 1);
    x.settle(2);
    e.due("attracted, and B not fed", x.count(4), 1);
    x.settle(200);
    x.stick(0, 1);
    x.press(0, 0);
    e.due("kind 1 happens", x.step(), 1);
    e.due("attracted", x.count(5), 1);
    e.due("no bounce", x.count(7), 0);
    e.due("closed", x.count(6), 1);
    x.press(0, 1);
    e.due("attracted already: no event", x.count(2), 0);
  }

  private void stuckBounceEnds() {
    e.sentence("a bounce that is there ends all the same).");
    RelayBank x = Check.bank(2, 2, 5, "a");
    x.press(0, 1);
    x.step();
    x.stick(0, 1);
    x.press(0, 0);
    e.due("kind 1 happens", x.step(), 1);
    e.due("it bounces on", x.count(7), 1);
    e.due("until the time that was set", x.event(0, 0), 7);
    e.due("it ends", x.step(), 2);
    e.due("not bouncing", x.count(7), 0);
    e.due("closed", x.count(6), 1);
  }

  private void runUntilQuiet() {
    e.sentence("The bank is run until it is quiet");
    RelayBank x = Check.bank(1, 1, 0, "/A");
    e.due("one event", x.outcome(0, 1), 1);
    e.due("two events", x.outcome(0, 2), 0);
    e.due("199 events", x.outcome(0, 199), 1);
    e.due("200 events", x.outcome(0, 200), 0);
    RelayBank y = Check.bank(1, 1, 0, "1");
    e.due("the last event that may happen makes it quiet", y.outcome(0, 1), 257);
    e.due("quiet before", y.outcome(0, 200), 257);
    y.step();
    e.due("quiet already", y.outcome(0, 1), 257);
  }

  private void outcome() {
    e.sentence("The outcome is the set of relays with attracted armatures");
    e.due("no relay", new RelayBank().outcome(0, 200), 256);
    e.due("all", Banks.eight(1, 1, 0, "1").outcome(0, 200), 255 + 256);
    e.due("not quiet", Banks.eight(1, 1, 0, "/H").outcome(0, 8), 255);
    e.due("at rest, not quiet", Banks.restless(1).outcome(0, 200), 0);
  }

  private void race() {
    e.sentence("There is a race in a state if the outcome with the reverse order differs");
    e.due("normal, quiet behind 201", Banks.longRun(201).outcome(0, 200), Banks.LONG_RUN_ENDS);
    e.due("reverse, quiet behind 200", Banks.longRun(201).outcome(1, 200), Banks.LONG_RUN_ENDS + 256);
    e.due("they differ by being quiet alone", Banks.longRun(201).isRace(), 1);
    e.due("and behind a key", Banks.longRun(201).raceBy(7), 1);
    e.due("both quiet within 200", Banks.longRun(200).isRace(), 0);
    e.due("and behind a key", Banks.longRun(200).raceBy(7), 0);
    e.due("neither quiet, same armatures", Banks.longRun(203).isRace(), 0);
    e.due("neither quiet, other armatures", Banks.longRun(202).isRace(), 1);
    RelayBank x = Check.bank(3, 2, 0, "a/B", "a/A");
    e.due("no event", x.isRace(), 0);
    x.press(0, 1);
    e.due("both quiet, other armatures", x.isRace(), 1);
  }
}
