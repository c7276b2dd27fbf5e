/** Promises 6 (invoke) and 13 (amount): STEPS and TOUCHING. */
public final class StepsTest extends DeskCheck {
  public static void main(String[] args) {
    getPutAddInATransaction();
    getPutAddPlainly();
    addWraps();
    lockedByWriting();
    lockedByReading();
    addReadsAndWrites();
    lockedChangesNothing();
    lockedByAnyOfTheSuspended();
    lockedNotAfterwards();
    keysStayAfterAMark();
    plainTouchesLeaveNoKeys();
    catching();
    notCatching();
    raising();
    finish();
  }

  private static void getPutAddInATransaction() {
    PropagationDesk desk = new PropagationDesk();
    desk.set(1, 30);
    int m = make(desk, REQUIRED, GET, 1, 99, PUT, 1, 4, GET, 1, 0, ADD, 1, -6, GET, 1, 0, ADD, 2, 8, RAISE, ERROR, 0);
    due("steps", desk.invoke(m), out(ERROR));
    dueEvents("steps", desk, gotEvent(1), putEvent(1), gotEvent(1), putEvent(1), gotEvent(1), putEvent(2), ROLLBACK_EVENT);
    int[] amounts = {30, 4, 4, -2, -2, 8, 0};
    for (int i = 0; i < amounts.length; i++) {
      due("amount(" + i + ")", desk.amount(i), amounts[i]);
    }
    dueValues("steps", desk, 0, 30, 0, 0);
  }

  private static void getPutAddPlainly() {
    PropagationDesk desk = new PropagationDesk();
    int m = make(desk, NEVER, PUT, 0, 4, ADD, 0, 3, GET, 0, 0, ADD, 3, 1, RAISE, ERROR, 0);
    due("plain steps", desk.invoke(m), out(ERROR));
    dueEvents("plain steps", desk, putEvent(0), putEvent(0), gotEvent(0), putEvent(3));
    due("amount of ADD", desk.amount(1), 7);
    due("amount of GET", desk.amount(2), 7);
    dueValues("plain steps", desk, 7, 0, 0, 1);
  }

  private static void addWraps() {
    for (int mode : new int[] {REQUIRED, SUPPORTS}) {
      PropagationDesk desk = new PropagationDesk();
      desk.set(0, Integer.MAX_VALUE);
      int m = make(desk, mode, ADD, 0, 2);
      due("add", desk.invoke(m), DONE);
      due("amount", desk.amount(0), Integer.MIN_VALUE + 1);
      due("value", desk.value(0), Integer.MIN_VALUE + 1);
    }
  }

  /** What comes out of op on key 1 when a suspended transaction has done before, for an inner mode. */
  private static int touch(int before, int op, int key, int mode) {
    PropagationDesk desk = new PropagationDesk();
    int inner = make(desk, mode, op, key, 1);
    int outer = make(desk, REQUIRED, before, 1, 1, CALL, inner, -1);
    return desk.invoke(outer);
  }

  private static void lockedByWriting() {
    for (int mode : new int[] {REQUIRES_NEW, NOT_SUPPORTED}) {
      for (int op : new int[] {GET, PUT, ADD}) {
        due("op " + op + " after PUT in mode " + mode, touch(PUT, op, 1, mode), out(LOCKED));
        due("op " + op + " on another key in mode " + mode, touch(PUT, op, 0, mode), DONE);
      }
    }
    for (int op : new int[] {GET, PUT, ADD}) {
      due("joined op " + op + " after PUT", touch(PUT, op, 1, REQUIRED), DONE);
      due("marked op " + op + " after PUT", touch(PUT, op, 1, NESTED), DONE);
    }
  }

  private static void lockedByReading() {
    for (int mode : new int[] {REQUIRES_NEW, NOT_SUPPORTED}) {
      due("GET after GET in mode " + mode, touch(GET, GET, 1, mode), DONE);
      due("PUT after GET in mode " + mode, touch(GET, PUT, 1, mode), out(LOCKED));
      due("ADD after GET in mode " + mode, touch(GET, ADD, 1, mode), out(LOCKED));
      due("PUT of another key in mode " + mode, touch(GET, PUT, 2, mode), DONE);
    }
  }

  private static void addReadsAndWrites() {
    for (int op : new int[] {GET, PUT, ADD}) {
      due("op " + op + " after ADD", touch(ADD, op, 1, REQUIRES_NEW), out(LOCKED));
    }
  }

  private static void lockedChangesNothing() {
    PropagationDesk desk = new PropagationDesk();
    int plain = make(desk, NOT_SUPPORTED, PUT, 0, 9);
    int adding = make(desk, NOT_SUPPORTED, ADD, 0, 9);
    int getting = make(desk, NOT_SUPPORTED, GET, 0, 0);
    int outer = make(desk, REQUIRED, PUT, 0, 1, CALL, plain, LOCKED, CALL, adding, LOCKED, CALL, getting, LOCKED, GET, 0, 0);
    due("locked", desk.invoke(outer), DONE);
    dueEvents("locked", desk, putEvent(0), caughtEvent(LOCKED), caughtEvent(LOCKED), caughtEvent(LOCKED), gotEvent(0), COMMIT_EVENT);
    due("own value", desk.amount(4), 1);
    dueValues("locked", desk, 1);
    refusedTouchesLeaveNoKeys();
  }

  private static void refusedTouchesLeaveNoKeys() {
    PropagationDesk desk = new PropagationDesk();
    int putter = make(desk, SUPPORTS, PUT, 0, 9);
    desk.rule(putter, LOCKED, false);
    int reader = make(desk, REQUIRES_NEW, GET, 0, 0);
    int middle = make(desk, REQUIRES_NEW, CALL, putter, LOCKED, CALL, reader, -1, GET, 0, 0);
    int outer = make(desk, REQUIRED, GET, 0, 0, CALL, middle, -1);
    due("a refused PUT has not written", desk.invoke(outer), DONE);
    dueEvents("a refused PUT has not written", desk, gotEvent(0), caughtEvent(LOCKED), gotEvent(0), COMMIT_EVENT,
        gotEvent(0), COMMIT_EVENT, COMMIT_EVENT);
  }

  private static void lockedByAnyOfTheSuspended() {
    PropagationDesk desk = new PropagationDesk();
    int first = make(desk, REQUIRED, PUT, 0, 1);
    int second = make(desk, REQUIRED, PUT, 1, 1);
    int third = make(desk, REQUIRED, PUT, 2, 1);
    int inner = make(desk, NOT_SUPPORTED, CALL, first, LOCKED, CALL, second, LOCKED, CALL, third, LOCKED);
    int middle = make(desk, REQUIRES_NEW, PUT, 1, 5, CALL, inner, -1);
    int outer = make(desk, REQUIRED, PUT, 0, 5, CALL, middle, -1);
    due("two are suspended", desk.invoke(outer), DONE);
    dueEvents("two are suspended", desk, putEvent(0), putEvent(1), ROLLBACK_EVENT, caughtEvent(LOCKED),
        ROLLBACK_EVENT, caughtEvent(LOCKED), putEvent(2), COMMIT_EVENT, COMMIT_EVENT, COMMIT_EVENT);
    dueValues("two are suspended", desk, 5, 5, 1);
  }

  private static void lockedNotAfterwards() {
    PropagationDesk desk = new PropagationDesk();
    int writer = make(desk, REQUIRES_NEW, PUT, 0, 1);
    int empty = make(desk, NOT_SUPPORTED);
    int outer = make(desk, REQUIRED, CALL, writer, -1, GET, 0, 0, CALL, empty, -1, PUT, 0, 2);
    due("what has ended locks nothing", desk.invoke(outer), DONE);
    due("what was committed is seen", desk.amount(2), 1);
    dueValues("what has ended locks nothing", desk, 2);
    due("nor does a former invocation", desk.invoke(outer), DONE);
    int joined = make(desk, SUPPORTS, ADD, 0, 1);
    int again = make(desk, REQUIRED, PUT, 0, 5, CALL, empty, -1, CALL, joined, -1);
    due("nor does one that is current again", desk.invoke(again), DONE);
    dueValues("nor does one that is current again", desk, 6);
  }

  private static void keysStayAfterAMark() {
    PropagationDesk desk = new PropagationDesk();
    int plain = make(desk, NOT_SUPPORTED, GET, 0, 0);
    int plainPut = make(desk, NOT_SUPPORTED, PUT, 1, 0);
    int inner = make(desk, NESTED, PUT, 0, 9, GET, 1, 0, ONLY, 0, 0);
    int outer = make(desk, REQUIRED, CALL, inner, -1, CALL, plain, LOCKED, CALL, plainPut, LOCKED);
    due("keys stay", desk.invoke(outer), DONE);
    dueEvents("keys stay", desk, putEvent(0), gotEvent(1), caughtEvent(LOCKED), caughtEvent(LOCKED), COMMIT_EVENT);
  }

  private static void plainTouchesLeaveNoKeys() {
    PropagationDesk desk = new PropagationDesk();
    int anew = make(desk, REQUIRES_NEW, ADD, 0, 1);
    int plain = make(desk, NOT_SUPPORTED, ADD, 0, 1, CALL, anew, -1);
    int outer = make(desk, REQUIRED, CALL, plain, -1, GET, 0, 0);
    due("plain touches", desk.invoke(outer), DONE);
    dueValues("plain touches", desk, 2);
  }

  private static void catching() {
    PropagationDesk desk = new PropagationDesk();
    int under = desk.kind(FAILED);
    int inner = make(desk, NOT_SUPPORTED, RAISE, under, 0);
    int outer = make(desk, REQUIRED, CALL, inner, under, CALL, inner, FAILED, CALL, inner, THROWABLE, PUT, 0, 1);
    due("caught", desk.invoke(outer), DONE);
    dueEvents("the event has the throwable's class", desk, caughtEvent(under), caughtEvent(under), caughtEvent(under),
        putEvent(0), COMMIT_EVENT);
    due("amount of CAUGHT", desk.amount(0), 0);
    int quiet = make(desk, SUPPORTS);
    int calm = make(desk, SUPPORTS, CALL, quiet, THROWABLE);
    due("nothing to catch", desk.invoke(calm), DONE);
    dueEvents("nothing to catch", desk);
  }

  private static void notCatching() {
    PropagationDesk desk = new PropagationDesk();
    int under = desk.kind(FAILED);
    int inner = make(desk, SUPPORTS, RAISE, FAILED, 0);
    for (int c : new int[] {-1, under, ERROR, LOCKED}) {
      int outer = make(desk, SUPPORTS, CALL, inner, c, PUT, 0, 1);
      due("catching " + c, desk.invoke(outer), out(FAILED));
      dueEvents("catching " + c, desk);
    }
  }

  private static void raising() {
    PropagationDesk desk = new PropagationDesk();
    for (int c = 10; c < 16; c++) {
      desk.kind(c - 1);
    }
    int last = make(desk, SUPPORTS, RAISE, 15, 0, PUT, 0, 1);
    due("class 15", desk.invoke(last), out(15));
    dueValues("no step after it", desk, 0);
    int first = make(desk, SUPPORTS, RAISE, THROWABLE, 0);
    due("class 0", desk.invoke(first), out(THROWABLE));
  }
}
