/** Promise 6 (invoke): TOUCHING a key that a suspended transaction has read or written. */
public final class TouchingTest extends DeskCheck {
  private static final int NOTHING = -1;

  // What the suspended transaction has done with the key; whether GET, PUT, ADD of that key are locked.
  private static final int[][] TABLE = {
      {NOTHING, 0, 0, 0},
      {GET, 0, 1, 1},
      {PUT, 1, 1, 1},
      {ADD, 1, 1, 1}};

  public static void main(String[] args) {
    tableOfKeys();
    notByTheCurrentOne();
    readAndThenWritten();
    lockedChangesNothing();
    refusedTouchesLeaveNoKeys();
    lockedByAnyOfTheSuspended();
    nineSuspended();
    lockedNotAfterwards();
    notByOneThatEnded();
    keysOfJoinedCalls();
    keysStayAfterAMark();
    plainTouchesLeaveNoKeys();
    finish();
  }

  /** Methods from outside in, each with the key touched in the last: modes under a REQUIRED one. */
  private static final int[][] WAYS = {
      {REQUIRES_NEW}, {NOT_SUPPORTED},
      {REQUIRES_NEW, REQUIRED}, {REQUIRES_NEW, NESTED}, {REQUIRES_NEW, SUPPORTS}, {REQUIRES_NEW, MANDATORY},
      {NOT_SUPPORTED, REQUIRED}, {NOT_SUPPORTED, SUPPORTS}, {NOT_SUPPORTED, NEVER}, {REQUIRED, NOT_SUPPORTED}};

  private static int touched(int before, int key, int op, int other, int[] way) {
    PropagationDesk desk = new PropagationDesk();
    int inner = make(desk, way[way.length - 1], op, other, 1);
    for (int i = way.length - 2; i >= 0; i--) {
      inner = make(desk, way[i], CALL, inner, -1);
    }
    int outer = desk.method(REQUIRED);
    if (before != NOTHING) {
      desk.step(outer, before, key, 1);
    }
    desk.step(outer, CALL, inner, -1);
    return desk.invoke(outer);
  }

  private static void tableOfKeys() {
    for (int[] way : WAYS) {
      for (int[] row : TABLE) {
        for (int op = GET; op <= ADD; op++) {
          for (int keys = 0; keys < 16; keys++) {
            int key = keys / 4;
            int other = keys % 4;
            boolean locked = key == other && row[1 + op] == 1;
            due("op " + op + " of key " + other + " after op " + row[0] + " of key " + key + " in mode " + way[0]
                + " of " + way.length, touched(row[0], key, op, other, way), locked ? out(LOCKED) : DONE);
          }
        }
      }
    }
  }

  private static void notByTheCurrentOne() {
    for (int mode : new int[] {REQUIRED, NESTED, SUPPORTS, MANDATORY}) {
      for (int before = GET; before <= ADD; before++) {
        for (int op = GET; op <= ADD; op++) {
          due("op " + op + " after op " + before + " in mode " + mode,
              touched(before, 1, op, 1, new int[] {mode}), DONE);
        }
      }
    }
  }

  private static void readAndThenWritten() {
    for (int second = GET; second <= ADD; second++) {
      for (int op = GET; op <= ADD; op++) {
        PropagationDesk desk = new PropagationDesk();
        int inner = make(desk, NOT_SUPPORTED, op, 2, 1);
        int outer = make(desk, REQUIRED, GET, 2, 0, second, 2, 1, CALL, inner, -1);
        boolean free = second == GET && op == GET;
        due("op " + op + " after GET and op " + second, desk.invoke(outer), free ? DONE : out(LOCKED));
        int other = make(desk, REQUIRED, PUT, 2, 0, second, 2, 1, CALL, inner, -1);
        due("op " + op + " after PUT and op " + second, desk.invoke(other), out(LOCKED));
      }
    }
  }

  private static void lockedChangesNothing() {
    PropagationDesk desk = new PropagationDesk();
    int plain = make(desk, NOT_SUPPORTED, PUT, 0, 9);
    int adding = make(desk, NOT_SUPPORTED, ADD, 0, 9);
    int getting = make(desk, NOT_SUPPORTED, GET, 0, 0);
    int outer = make(desk, REQUIRED, PUT, 0, 1, CALL, plain, LOCKED, CALL, adding, LOCKED, CALL, getting, LOCKED, GET, 0, 0);
    due("locked", desk.invoke(outer), DONE);
    dueEvents("locked", desk, putEvent(0), caughtEvent(LOCKED), caughtEvent(LOCKED), caughtEvent(LOCKED),
        gotEvent(0), COMMIT_EVENT);
    due("own value", desk.amount(4), 1);
    dueValues("locked", desk, 1);
    int failing = make(desk, REQUIRED, GET, 0, 1, CALL, plain, LOCKED, CALL, adding, LOCKED, ONLY, 0, 0);
    due("locked by reading", desk.invoke(failing), DONE);
    dueEvents("locked by reading", desk, gotEvent(0), caughtEvent(LOCKED), caughtEvent(LOCKED), ROLLBACK_EVENT);
    dueValues("nothing is committed plainly", desk, 1);
  }

  private static void refusedTouchesLeaveNoKeys() {
    for (int op : new int[] {PUT, ADD}) {
      PropagationDesk desk = new PropagationDesk();
      desk.set(0, 40);
      int toucher = make(desk, SUPPORTS, op, 0, 9);
      desk.rule(toucher, LOCKED, false);
      int reader = make(desk, REQUIRES_NEW, GET, 0, 0);
      int middle = make(desk, REQUIRES_NEW, CALL, toucher, LOCKED, CALL, reader, -1, GET, 0, 0);
      int outer = make(desk, REQUIRED, GET, 0, 0, CALL, middle, -1);
      String name = "a refused op " + op + " has not written";
      due(name, desk.invoke(outer), DONE);
      dueEvents(name, desk, gotEvent(0), caughtEvent(LOCKED), gotEvent(0), COMMIT_EVENT,
          gotEvent(0), COMMIT_EVENT, COMMIT_EVENT);
      dueAmounts(name, desk, 40, 0, 40, 0, 40, 0, 0);
      dueValues(name, desk, 40);
    }
  }

  private static void lockedByAnyOfTheSuspended() {
    PropagationDesk desk = new PropagationDesk();
    int first = make(desk, REQUIRED, PUT, 0, 1);
    int second = make(desk, REQUIRED, PUT, 1, 1);
    int third = make(desk, REQUIRED, PUT, 2, 1);
    int inner = make(desk, NOT_SUPPORTED, CALL, first, LOCKED, CALL, second, LOCKED, CALL, third, LOCKED);
    int middle = make(desk, REQUIRES_NEW, PUT, 1, 5, CALL, inner, -1);
    int outer = make(desk, REQUIRED, PUT, 0, 5, CALL, middle, -1);
    due("two are suspended", desk.invoke(outer), DONE);
    dueEvents("two are suspended", desk, putEvent(0), putEvent(1), ROLLBACK_EVENT, caughtEvent(LOCKED),
        ROLLBACK_EVENT, caughtEvent(LOCKED), putEvent(2), COMMIT_EVENT, COMMIT_EVENT, COMMIT_EVENT);
    dueValues("two are suspended", desk, 5, 5, 1);
  }

  /** Ten methods, each in a transaction of its own: one of the nine suspended ones has written. */
  private static void nineSuspended() {
    for (int writer = 1; writer < 10; writer++) {
      PropagationDesk desk = new PropagationDesk();
      make(desk, REQUIRES_NEW, GET, 3, 0);
      for (int m = 1; m < 10; m++) {
        make(desk, REQUIRES_NEW, m == writer ? PUT : ONLY, 3, 1, CALL, m - 1, -1);
      }
      due("method " + writer + " has written", desk.invoke(9), out(LOCKED));
      dueCounts("method " + writer + " has written", desk, 10, 0, 10, 0);
    }
  }

  private static void lockedNotAfterwards() {
    PropagationDesk desk = new PropagationDesk();
    int writer = make(desk, REQUIRES_NEW, PUT, 0, 1);
    int empty = make(desk, NOT_SUPPORTED);
    int outer = make(desk, REQUIRED, CALL, writer, -1, GET, 0, 0, CALL, empty, -1, PUT, 0, 2);
    due("what has ended locks nothing", desk.invoke(outer), DONE);
    due("what was committed is seen", desk.amount(2), 1);
    dueValues("what has ended locks nothing", desk, 2);
    due("nor does a former invocation", desk.invoke(outer), DONE);
    int joined = make(desk, SUPPORTS, ADD, 0, 1);
    int again = make(desk, REQUIRED, PUT, 0, 5, CALL, empty, -1, CALL, joined, -1);
    due("nor does one that is current again", desk.invoke(again), DONE);
    dueValues("nor does one that is current again", desk, 6);
  }

  /** A transaction that was suspended and has ended, by commit or rollback, locks nothing any more. */
  private static void notByOneThatEnded() {
    for (int mode : new int[] {REQUIRED, REQUIRES_NEW, NESTED}) {
      for (int last : new int[] {PUT, ONLY}) {
        PropagationDesk desk = new PropagationDesk();
        int suspending = make(desk, NOT_SUPPORTED);
        int former = make(desk, mode, PUT, 0, 3, GET, 1, 0, CALL, suspending, -1, last, 0, 4);
        int outer = make(desk, NOT_SUPPORTED, CALL, former, -1, ADD, 0, 1, PUT, 1, 2);
        String name = "mode " + mode + ", last op " + last;
        due(name, desk.invoke(outer), DONE);
        dueValues(name, desk, last == PUT ? 5 : 1, 2);
      }
    }
  }

  /** What joined and marked calls touch, the transaction has read or written. */
  private static void keysOfJoinedCalls() {
    for (int mode : new int[] {REQUIRED, NESTED, SUPPORTS, MANDATORY}) {
      for (int before = GET; before <= ADD; before++) {
        PropagationDesk desk = new PropagationDesk();
        int toucher = make(desk, mode, before, 0, 1);
        int plain = make(desk, NOT_SUPPORTED, PUT, 0, 9);
        int outer = make(desk, REQUIRED, CALL, toucher, -1, CALL, plain, -1);
        due("PUT after op " + before + " in mode " + mode, desk.invoke(outer), out(LOCKED));
      }
    }
  }

  private static void keysStayAfterAMark() {
    PropagationDesk desk = new PropagationDesk();
    int plain = make(desk, NOT_SUPPORTED, GET, 0, 0);
    int plainPut = make(desk, NOT_SUPPORTED, PUT, 1, 0);
    int inner = make(desk, NESTED, PUT, 0, 9, GET, 1, 0, ONLY, 0, 0);
    int outer = make(desk, REQUIRED, CALL, inner, -1, CALL, plain, LOCKED, CALL, plainPut, LOCKED);
    due("keys stay", desk.invoke(outer), DONE);
    dueEvents("keys stay", desk, putEvent(0), gotEvent(1), caughtEvent(LOCKED), caughtEvent(LOCKED), COMMIT_EVENT);
  }

  private static void plainTouchesLeaveNoKeys() {
    PropagationDesk desk = new PropagationDesk();
    int anew = make(desk, REQUIRES_NEW, ADD, 0, 1);
    int plain = make(desk, NOT_SUPPORTED, ADD, 0, 1, GET, 0, 0, CALL, anew, -1);
    int outer = make(desk, REQUIRED, CALL, plain, -1, GET, 0, 0);
    due("plain touches", desk.invoke(outer), DONE);
    dueValues("plain touches", desk, 2);
  }
}
