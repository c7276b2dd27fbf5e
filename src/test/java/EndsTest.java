/** Promises 6 (invoke), 10 (rolls) and 15 (count): how calls end, (d) of TO CALL. */
public final class EndsTest extends DeskCheck {
  public static void main(String[] args) {
    begunGoesBackAsRolls();
    begunQuietlyBack();
    onlyIsOfJustOneCall();
    onlyOfAFormerCall();
    onlyAfterTheThrowable();
    joinedSpoils();
    joinedQuietlySpoils();
    spoiledReplacesAThrowable();
    spoiledGivesWayToBack();
    markedGoesBack();
    markedQuietlyBack();
    markedTakesBackTheSpoiling();
    markedWhenSpoiledAlready();
    markedSpoiledReplacesAThrowable();
    marksInMarks();
    markTellsWhichKeysHadOne();
    plainlyNothingMore();
    stepsInTheirOrder();
    stepsUntilAThrowable();
    noSteps();
    rulesOfEachCallDecide();
    markOfEachSetOfKeys();
    markTakesBackWithoutAnyValue();
    markIsOfThatMoment();
    countsOverInvocations();
    countsOfNothing();
    finish();
  }

  private static void begunGoesBackAsRolls() {
    for (int t = 0; t < 10; t++) {
      PropagationDesk desk = new PropagationDesk();
      int m = make(desk, REQUIRED, PUT, 0, 5, RAISE, t, 0, PUT, 1, 5);
      boolean back = desk.rolls(m, t);
      due("class " + t + " raised", desk.invoke(m), out(t));
      dueEvents("class " + t, desk, putEvent(0), back ? ROLLBACK_EVENT : COMMIT_EVENT);
      dueValues("class " + t, desk, back ? 0 : 5, 0);
      dueCounts("class " + t, desk, 1, back ? 0 : 1, back ? 1 : 0, 0);
      desk.rule(m, t, !back);
      due("class " + t + " raised, by a rule", desk.invoke(m), out(t));
      dueEvents("class " + t + " by a rule", desk, putEvent(0), back ? COMMIT_EVENT : ROLLBACK_EVENT);
    }
  }

  private static void begunQuietlyBack() {
    PropagationDesk desk = new PropagationDesk();
    int m = make(desk, REQUIRED, ONLY, 0, 0, PUT, 0, 5);
    due("quietly back", desk.invoke(m), DONE);
    dueEvents("quietly back", desk, putEvent(0), ROLLBACK_EVENT);
    dueValues("quietly back", desk, 0);
    dueCounts("quietly back", desk, 1, 0, 1, 0);
    int raising = make(desk, REQUIRED, ONLY, 0, 0, RAISE, CHECKED, 0);
    due("quietly back, with a throwable", desk.invoke(raising), out(CHECKED));
    dueEvents("quietly back, with a throwable", desk, ROLLBACK_EVENT);
  }

  private static void onlyIsOfJustOneCall() {
    PropagationDesk desk = new PropagationDesk();
    int inner = make(desk, REQUIRES_NEW, ONLY, 0, 0);
    int sibling = make(desk, REQUIRES_NEW, PUT, 1, 2);
    int outer = make(desk, REQUIRED, PUT, 0, 1, CALL, inner, -1, CALL, sibling, -1);
    due("ONLY of an inner call", desk.invoke(outer), DONE);
    dueEvents("ONLY of an inner call", desk, putEvent(0), ROLLBACK_EVENT, putEvent(1), COMMIT_EVENT, COMMIT_EVENT);
    int asking = make(desk, REQUIRED, ONLY, 0, 0, CALL, sibling, -1);
    due("ONLY of an outer call", desk.invoke(asking), DONE);
    dueEvents("ONLY of an outer call", desk, putEvent(1), COMMIT_EVENT, ROLLBACK_EVENT);
  }

  /** One method twice in an invocation: ONLY is done in the first call, and not in the second, which is LOCKED. */
  private static void onlyOfAFormerCall() {
    PropagationDesk desk = new PropagationDesk();
    int m = make(desk, REQUIRES_NEW, PUT, 1, 4, PUT, 0, 5, ONLY, 0, 0);
    desk.rule(m, LOCKED, false);
    int reading = make(desk, REQUIRED, GET, 0, 0, CALL, m, LOCKED);
    int outer = make(desk, SUPPORTS, CALL, m, -1, CALL, reading, -1);
    due("ONLY of a former call", desk.invoke(outer), DONE);
    dueEvents("ONLY of a former call", desk, putEvent(1), putEvent(0), ROLLBACK_EVENT,
        gotEvent(0), putEvent(1), COMMIT_EVENT, caughtEvent(LOCKED), COMMIT_EVENT);
    dueValues("ONLY of a former call", desk, 0, 4);
  }

  private static void onlyAfterTheThrowable() {
    PropagationDesk desk = new PropagationDesk();
    int m = make(desk, REQUIRED, PUT, 0, 4, RAISE, CHECKED, 0, ONLY, 0, 0);
    due("ONLY that is not done", desk.invoke(m), out(CHECKED));
    dueValues("ONLY that is not done", desk, 4);
  }

  private static void joinedSpoils() {
    PropagationDesk desk = new PropagationDesk();
    int inner = make(desk, SUPPORTS, RAISE, UNCHECKED, 0);
    int outer = make(desk, REQUIRED, CALL, inner, UNCHECKED, PUT, 0, 1);
    due("spoiled", desk.invoke(outer), out(SPOILED));
    dueEvents("spoiled", desk, caughtEvent(UNCHECKED), putEvent(0), ROLLBACK_EVENT);
    dueValues("spoiled", desk, 0);
    desk.rule(inner, UNCHECKED, false);
    due("not spoiled", desk.invoke(outer), DONE);
    dueValues("not spoiled", desk, 1);
    dueCounts("not spoiled", desk, 2, 1, 1, 0);
  }

  private static void joinedQuietlySpoils() {
    PropagationDesk desk = new PropagationDesk();
    int inner = make(desk, MANDATORY, ONLY, 0, 0);
    int good = make(desk, MANDATORY);
    int outer = make(desk, REQUIRED, CALL, inner, -1, CALL, good, -1);
    due("quietly spoiled, and it stays so", desk.invoke(outer), out(SPOILED));
    dueEvents("quietly spoiled", desk, ROLLBACK_EVENT);
    int anew = make(desk, REQUIRED, CALL, good, -1);
    due("a later transaction is not spoiled", desk.invoke(anew), DONE);
  }

  private static void spoiledReplacesAThrowable() {
    PropagationDesk desk = new PropagationDesk();
    int inner = make(desk, SUPPORTS, ONLY, 0, 0);
    int outer = make(desk, REQUIRED, CALL, inner, -1, RAISE, CHECKED, 0);
    due("SPOILED instead of CHECKED", desk.invoke(outer), out(SPOILED));
  }

  private static void spoiledGivesWayToBack() {
    PropagationDesk desk = new PropagationDesk();
    int inner = make(desk, SUPPORTS, ONLY, 0, 0);
    int outer = make(desk, REQUIRED, CALL, inner, -1, RAISE, ERROR, 0);
    due("ERROR, not SPOILED", desk.invoke(outer), out(ERROR));
    int asking = make(desk, REQUIRED, CALL, inner, -1, ONLY, 0, 0);
    due("quietly back, not SPOILED", desk.invoke(asking), DONE);
    dueCounts("both", desk, 2, 0, 2, 0);
  }

  private static void markedGoesBack() {
    PropagationDesk desk = new PropagationDesk();
    int inner = make(desk, NESTED, PUT, 0, 9, PUT, 1, 9, RAISE, FAILED, 0);
    int outer = make(desk, REQUIRED, PUT, 0, 1, CALL, inner, FAILED, GET, 0, 0, GET, 1, 0);
    desk.set(1, 70);
    due("to the mark", desk.invoke(outer), DONE);
    dueEvents("to the mark", desk, putEvent(0), putEvent(0), putEvent(1), caughtEvent(FAILED),
        gotEvent(0), gotEvent(1), COMMIT_EVENT);
    due("own value of then", desk.amount(4), 1);
    due("no own value then", desk.amount(5), 70);
    dueValues("to the mark", desk, 1, 70);
    dueCounts("to the mark", desk, 1, 1, 0, 1);
    desk.rule(inner, FAILED, false);
    due("not to the mark", desk.invoke(outer), DONE);
    dueValues("not to the mark", desk, 9, 9);
    dueCounts("not to the mark", desk, 2, 2, 0, 1);
  }

  private static void markedQuietlyBack() {
    PropagationDesk desk = new PropagationDesk();
    int inner = make(desk, NESTED, PUT, 0, 9, ONLY, 0, 0);
    int outer = make(desk, REQUIRED, PUT, 0, 1, CALL, inner, -1);
    due("quietly to the mark", desk.invoke(outer), DONE);
    dueValues("quietly to the mark", desk, 1);
    dueCounts("quietly to the mark", desk, 1, 1, 0, 1);
  }

  private static void markedTakesBackTheSpoiling() {
    PropagationDesk desk = new PropagationDesk();
    int spoiler = make(desk, SUPPORTS, PUT, 1, 3, ONLY, 0, 0);
    int inner = make(desk, NESTED, PUT, 0, 9, CALL, spoiler, -1);
    int outer = make(desk, REQUIRED, PUT, 0, 1, CALL, inner, SPOILED);
    due("spoiled since the mark", desk.invoke(outer), DONE);
    dueEvents("spoiled since the mark", desk, putEvent(0), putEvent(0), putEvent(1), caughtEvent(SPOILED), COMMIT_EVENT);
    dueValues("spoiled since the mark", desk, 1, 0);
    dueCounts("spoiled since the mark", desk, 1, 1, 0, 1);
    int raising = make(desk, NESTED, CALL, spoiler, -1, RAISE, UNCHECKED, 0);
    int around = make(desk, REQUIRED, CALL, raising, UNCHECKED, PUT, 2, 1);
    due("spoiled since the mark, and back", desk.invoke(around), DONE);
    dueValues("spoiled since the mark, and back", desk, 1, 0, 1);
    dueCounts("spoiled since the mark, and back", desk, 2, 2, 0, 2);
  }

  private static void markedWhenSpoiledAlready() {
    PropagationDesk desk = new PropagationDesk();
    int spoiler = make(desk, SUPPORTS, ONLY, 0, 0);
    int inner = make(desk, NESTED, PUT, 0, 9, CALL, spoiler, -1);
    int outer = make(desk, REQUIRED, CALL, spoiler, -1, CALL, inner, -1, GET, 0, 0);
    due("spoiled at the mark", desk.invoke(outer), out(SPOILED));
    dueEvents("spoiled at the mark", desk, putEvent(0), gotEvent(0), ROLLBACK_EVENT);
    due("nothing is taken back", desk.amount(1), 9);
    dueCounts("spoiled at the mark", desk, 1, 0, 1, 0);
    int quiet = make(desk, NESTED, PUT, 0, 9, ONLY, 0, 0);
    int around = make(desk, REQUIRED, CALL, spoiler, -1, CALL, quiet, -1, GET, 0, 0);
    due("it stays spoiled", desk.invoke(around), out(SPOILED));
    due("own values are taken back", desk.amount(1), 0);
    dueCounts("it stays spoiled", desk, 2, 0, 2, 1);
  }

  private static void markedSpoiledReplacesAThrowable() {
    PropagationDesk desk = new PropagationDesk();
    int spoiler = make(desk, SUPPORTS, ONLY, 0, 0);
    int inner = make(desk, NESTED, CALL, spoiler, -1, RAISE, CHECKED, 0);
    int outer = make(desk, REQUIRED, CALL, inner, CHECKED);
    due("SPOILED is a CHECKED and caught", desk.invoke(outer), DONE);
    dueEvents("SPOILED instead of CHECKED", desk, caughtEvent(SPOILED), COMMIT_EVENT);
  }

  private static void marksInMarks() {
    PropagationDesk desk = new PropagationDesk();
    int innermost = make(desk, NESTED, ADD, 0, 100, ONLY, 0, 0);
    int middle = make(desk, NESTED, ADD, 0, 10, CALL, innermost, -1, GET, 0, 0, ONLY, 0, 0);
    int outer = make(desk, REQUIRED, ADD, 0, 1, CALL, middle, -1, GET, 0, 0);
    due("marks in marks", desk.invoke(outer), DONE);
    due("the middle one's own value", desk.amount(3), 11);
    due("the outer one's own value", desk.amount(4), 1);
    dueCounts("marks in marks", desk, 1, 1, 0, 2);
    dueValues("marks in marks", desk, 1);
  }

  private static void markTellsWhichKeysHadOne() {
    PropagationDesk desk = new PropagationDesk();
    int plain = make(desk, NOT_SUPPORTED, PUT, 3, 8);
    int inner = make(desk, NESTED, PUT, 2, 9, ONLY, 0, 0);
    int outer = make(desk, REQUIRED, PUT, 0, 0, CALL, inner, -1, CALL, plain, -1);
    desk.set(0, 4);
    desk.set(2, 6);
    due("which keys had one", desk.invoke(outer), DONE);
    dueValues("an own value of 0 is one", desk, 0, 0, 6, 8);
  }

  private static void plainlyNothingMore() {
    PropagationDesk desk = new PropagationDesk();
    int m = make(desk, SUPPORTS, PUT, 0, 3, ONLY, 0, 0, RAISE, OVERRUN, 0);
    due("plainly", desk.invoke(m), out(OVERRUN));
    dueEvents("plainly", desk, putEvent(0));
    dueValues("plainly", desk, 3);
    dueCounts("plainly", desk, 0, 0, 0, 0);
    int inner = make(desk, NOT_SUPPORTED, ONLY, 0, 0, RAISE, OVERRUN, 0);
    int outer = make(desk, REQUIRED, CALL, inner, OVERRUN, PUT, 1, 1);
    due("a suspended one is not spoiled", desk.invoke(outer), DONE);
    dueValues("a suspended one is not spoiled", desk, 3, 1);
  }

  private static void stepsInTheirOrder() {
    PropagationDesk desk = new PropagationDesk();
    int m = make(desk, REQUIRED, PUT, 0, 2, ADD, 0, 3, GET, 0, 0, PUT, 0, 9, GET, 0, 0, ADD, 1, 1, GET, 1, 0, GET, 0, 0);
    due("eight steps", desk.invoke(m), DONE);
    dueEvents("eight steps", desk, putEvent(0), putEvent(0), gotEvent(0), putEvent(0), gotEvent(0), putEvent(1),
        gotEvent(1), gotEvent(0), COMMIT_EVENT);
    dueAmounts("eight steps", desk, 2, 5, 5, 9, 9, 1, 1, 9, 0);
  }

  /** Seven steps, and a RAISE before, between or behind them: the steps behind it are not done. */
  private static void stepsUntilAThrowable() {
    for (int at = 0; at < 8; at++) {
      PropagationDesk desk = new PropagationDesk();
      int m = desk.method(SUPPORTS);
      for (int i = 0; i < 8; i++) {
        desk.step(m, i == at ? RAISE : ADD, i == at ? CHECKED : 0, 1);
      }
      due("raised in step " + at, desk.invoke(m), out(CHECKED));
      due("raised in step " + at + ": events()", desk.events(), at);
      due("raised in step " + at + ": value(0)", desk.value(0), at);
    }
  }

  private static void noSteps() {
    PropagationDesk desk = new PropagationDesk();
    int inner = make(desk, NESTED);
    int outer = make(desk, REQUIRED, CALL, inner, -1);
    due("no steps", desk.invoke(inner), DONE);
    dueEvents("no steps", desk, COMMIT_EVENT);
    due("no steps, marked", desk.invoke(outer), DONE);
    dueEvents("no steps, marked", desk, COMMIT_EVENT);
    dueCounts("no steps", desk, 2, 2, 0, 0);
  }

  private static void rulesOfEachCallDecide() {
    PropagationDesk desk = new PropagationDesk();
    int raising = make(desk, NOT_SUPPORTED, RAISE, CHECKED, 0);
    int marked = make(desk, NESTED, PUT, 0, 9, CALL, raising, -1);
    int begun = make(desk, REQUIRED, PUT, 1, 4, CALL, marked, -1);
    desk.rule(raising, CHECKED, true);
    due("the innermost one's rule", desk.invoke(begun), out(CHECKED));
    dueValues("the innermost one's rule is not the others'", desk, 9, 4);
    desk.set(0, 0);
    desk.rule(marked, CHECKED, true);
    due("the marked one's rule", desk.invoke(begun), out(CHECKED));
    dueValues("the marked one's rule is not the outer one's", desk, 0, 4);
    desk.set(1, 0);
    desk.rule(begun, CHECKED, true);
    due("the outer one's rule", desk.invoke(begun), out(CHECKED));
    dueValues("the outer one's rule", desk, 0, 0);
    dueCounts("the three", desk, 3, 2, 1, 2);
  }

  /** Each set of keys that have an own value at the mark; all four are put afterwards and taken back. */
  private static void markOfEachSetOfKeys() {
    for (int owned = 0; owned < 16; owned++) {
      PropagationDesk desk = new PropagationDesk();
      int putter = desk.method(SUPPORTS);
      int getter = make(desk, SUPPORTS, GET, 0, 0, GET, 1, 0, GET, 2, 0, GET, 3, 0);
      int inner = make(desk, NESTED, PUT, 0, 71, ADD, 1, 72, PUT, 2, 73, ADD, 3, 74, ONLY, 0, 0);
      int outer = make(desk, REQUIRED, CALL, putter, -1, CALL, inner, -1, CALL, getter, -1);
      for (int k = 0; k < 4; k++) {
        desk.set(k, 100 + k);
        if ((owned >> k & 1) == 1) {
          desk.step(putter, PUT, k, 10 + k);
        }
      }
      String name = "own values " + owned + " at the mark";
      due(name, desk.invoke(outer), DONE);
      int first = Integer.bitCount(owned) + 4;
      for (int k = 0; k < 4; k++) {
        int want = (owned >> k & 1) == 1 ? 10 + k : 100 + k;
        due(name + ": key " + k + " is got", desk.amount(first + k), want);
        due(name + ": value(" + k + ")", desk.value(k), want);
      }
      dueCounts(name, desk, 1, 1, 0, 1);
    }
  }

  private static void markTakesBackWithoutAnyValue() {
    PropagationDesk desk = new PropagationDesk();
    int inner = make(desk, NESTED, ONLY, 0, 0);
    int outer = make(desk, REQUIRED, CALL, inner, -1, CALL, inner, -1);
    due("no own values", desk.invoke(outer), DONE);
    dueEvents("no own values", desk, COMMIT_EVENT);
    dueCounts("no own values", desk, 1, 1, 0, 2);
  }

  /** Two calls in a row mark anew: the second mark has what was put between them. */
  private static void markIsOfThatMoment() {
    PropagationDesk desk = new PropagationDesk();
    int inner = make(desk, NESTED, ADD, 0, 100, ONLY, 0, 0);
    int outer = make(desk, REQUIRED, CALL, inner, -1, PUT, 0, 5, CALL, inner, -1, GET, 0, 0);
    due("two marks", desk.invoke(outer), DONE);
    dueAmounts("two marks", desk, 100, 5, 105, 5, 0);
    dueValues("two marks", desk, 5);
    int spoiler = make(desk, SUPPORTS, ONLY, 0, 0);
    int keeping = make(desk, NESTED, PUT, 1, 8);
    int between = make(desk, REQUIRED, CALL, keeping, -1, CALL, spoiler, -1, CALL, keeping, -1);
    due("spoiled between two marks", desk.invoke(between), out(SPOILED));
    dueCounts("spoiled between two marks", desk, 2, 1, 1, 2);
  }

  private static void countsOverInvocations() {
    PropagationDesk desk = new PropagationDesk();
    int committing = make(desk, REQUIRED);
    int goingBack = make(desk, REQUIRED, ONLY, 0, 0);
    int marked = make(desk, NESTED, ONLY, 0, 0);
    int marking = make(desk, REQUIRED, CALL, marked, -1);
    for (int i = 0; i < 20; i++) {
      dueCounts("before round " + i, desk, 4 * i, 2 * i, 2 * i, i);
      desk.invoke(committing);
      dueCounts("committed in round " + i, desk, 4 * i + 1, 2 * i + 1, 2 * i, i);
      desk.invoke(goingBack);
      dueCounts("rolled back in round " + i, desk, 4 * i + 2, 2 * i + 1, 2 * i + 1, i);
      desk.invoke(marking);
      dueCounts("marked in round " + i, desk, 4 * i + 3, 2 * i + 2, 2 * i + 1, i + 1);
      desk.invoke(marked);
    }
  }

  private static void countsOfNothing() {
    PropagationDesk desk = new PropagationDesk();
    int inner = make(desk, NESTED, ONLY, 0, 0);
    desk.invoke(make(desk, REQUIRED, CALL, inner, -1));
    desk.invoke(inner);
    for (int which : new int[] {-1, 4, 5, LEAST, MOST}) {
      due("count(" + which + ")", desk.count(which), -1);
    }
    dueCounts("the others", desk, 2, 1, 1, 1);
  }
}
