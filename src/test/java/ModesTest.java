/** Promise 6 (invoke): what each mode does, (b) of TO CALL. */
public final class ModesTest extends DeskCheck {
  public static void main(String[] args) {
    fromOutside();
    joining();
    requiringNew();
    marking();
    goingPlainly();
    never();
    refusalsDoNothingElse();
    whatIsCurrentAfterwards();
    tenDeep();
    noMethod();
    finish();
  }

  private static void fromOutside() {
    for (int mode = 0; mode < 7; mode++) {
      PropagationDesk desk = new PropagationDesk();
      int m = make(desk, mode, PUT, 0, 5);
      String name = "mode " + mode + " from outside";
      if (mode == MANDATORY) {
        due(name, desk.invoke(m), out(MISSING));
        dueEvents(name, desk);
        dueValues(name, desk, 0);
        dueCounts(name, desk, 0, 0, 0, 0);
      } else if (mode <= NESTED) {
        due(name, desk.invoke(m), DONE);
        dueEvents(name, desk, putEvent(0), COMMIT_EVENT);
        dueValues(name, desk, 5);
        dueCounts(name, desk, 1, 1, 0, 0);
      } else {
        due(name, desk.invoke(m), DONE);
        dueEvents(name, desk, putEvent(0));
        dueValues(name, desk, 5);
        dueCounts(name, desk, 0, 0, 0, 0);
      }
      due(name + ": calls()", desk.calls(), 1);
    }
  }

  private static void joining() {
    for (int mode : new int[] {REQUIRED, SUPPORTS, MANDATORY}) {
      PropagationDesk desk = new PropagationDesk();
      int inner = make(desk, mode, GET, 0, 0, PUT, 0, 6);
      int outer = make(desk, REQUIRED, PUT, 0, 5, CALL, inner, -1, GET, 0, 0);
      String name = "mode " + mode + " joins";
      due(name, desk.invoke(outer), DONE);
      dueEvents(name, desk, putEvent(0), gotEvent(0), putEvent(0), gotEvent(0), COMMIT_EVENT);
      due(name + ": it sees the own value", desk.amount(1), 5);
      due(name + ": its own value is seen", desk.amount(3), 6);
      dueCounts(name, desk, 1, 1, 0, 0);
    }
  }

  private static void requiringNew() {
    PropagationDesk desk = new PropagationDesk();
    desk.set(0, 3);
    int inner = make(desk, REQUIRES_NEW, GET, 1, 0, PUT, 2, 6);
    int outer = make(desk, REQUIRED, PUT, 0, 5, HOOK, 4, 0, CALL, inner, -1, RAISE, UNCHECKED, 0);
    due("requires new", desk.invoke(outer), out(UNCHECKED));
    dueEvents("requires new", desk, putEvent(0), gotEvent(1), putEvent(2), COMMIT_EVENT,
        hookEvent(4, 4), ROLLBACK_EVENT, hookEvent(4, 6));
    dueValues("requires new", desk, 3, 0, 6, 0);
    dueCounts("requires new", desk, 2, 1, 1, 0);
  }

  private static void marking() {
    PropagationDesk desk = new PropagationDesk();
    int inner = make(desk, NESTED, PUT, 1, 6);
    int outer = make(desk, REQUIRED, PUT, 0, 5, CALL, inner, -1, GET, 1, 0);
    due("nested", desk.invoke(outer), DONE);
    dueEvents("nested", desk, putEvent(0), putEvent(1), gotEvent(1), COMMIT_EVENT);
    dueValues("nested", desk, 5, 6);
    dueCounts("nested", desk, 1, 1, 0, 0);
  }

  private static void goingPlainly() {
    PropagationDesk desk = new PropagationDesk();
    int inner = make(desk, NOT_SUPPORTED, PUT, 1, 6, RAISE, UNCHECKED, 0);
    int outer = make(desk, REQUIRED, PUT, 0, 5, CALL, inner, UNCHECKED);
    due("not supported", desk.invoke(outer), DONE);
    dueEvents("not supported", desk, putEvent(0), putEvent(1), caughtEvent(UNCHECKED), COMMIT_EVENT);
    dueValues("not supported", desk, 5, 6);
    int failing = make(desk, REQUIRED, CALL, inner, -1);
    due("what is put plainly stays", desk.invoke(failing), out(UNCHECKED));
    dueValues("what is put plainly stays", desk, 5, 6);
  }

  private static void never() {
    PropagationDesk desk = new PropagationDesk();
    int inner = make(desk, NEVER, PUT, 1, 6);
    int plain = make(desk, SUPPORTS, CALL, inner, -1);
    int outer = make(desk, REQUIRED, CALL, inner, -1);
    int hidden = make(desk, NOT_SUPPORTED, CALL, inner, -1);
    int around = make(desk, REQUIRED, CALL, hidden, -1);
    due("never, plainly", desk.invoke(plain), DONE);
    dueValues("never, plainly", desk, 0, 6);
    desk.set(1, 0);
    due("never, in a transaction", desk.invoke(outer), out(PRESENT));
    dueEvents("never, in a transaction", desk, ROLLBACK_EVENT);
    dueValues("never, in a transaction", desk, 0, 0);
    due("never, in a suspended transaction", desk.invoke(around), DONE);
    dueValues("never, in a suspended transaction", desk, 0, 6);
  }

  private static void refusalsDoNothingElse() {
    PropagationDesk desk = new PropagationDesk();
    int mandatory = make(desk, MANDATORY, ONLY, 0, 0);
    int never = make(desk, NEVER, ONLY, 0, 0);
    int outer = make(desk, REQUIRED, CALL, never, PRESENT, PUT, 0, 1);
    due("PRESENT does not spoil", desk.invoke(outer), DONE);
    dueEvents("PRESENT does not spoil", desk, caughtEvent(PRESENT), putEvent(0), COMMIT_EVENT);
    due("a refused call counts", desk.calls(), 2);
    int plain = make(desk, SUPPORTS, CALL, mandatory, UNCHECKED);
    due("MISSING is caught", desk.invoke(plain), DONE);
    dueEvents("MISSING is caught", desk, caughtEvent(MISSING));
    due("a refused call counts too", desk.calls(), 2);
  }

  private static void whatIsCurrentAfterwards() {
    PropagationDesk desk = new PropagationDesk();
    int checksNone = make(desk, NEVER);
    int checksOne = make(desk, MANDATORY);
    int begins = make(desk, REQUIRED, CALL, checksOne, -1);
    int plain = make(desk, NOT_SUPPORTED, CALL, begins, -1, CALL, checksNone, -1);
    int anew = make(desk, REQUIRES_NEW, CALL, checksOne, -1, CALL, plain, -1, CALL, checksOne, -1);
    int outer = make(desk, SUPPORTS, CALL, anew, -1, CALL, checksNone, -1);
    int around = make(desk, REQUIRED, CALL, plain, -1, CALL, anew, -1, CALL, checksOne, -1);
    due("from none to none", desk.invoke(outer), DONE);
    dueCounts("from none to none", desk, 2, 2, 0, 0);
    due("from one to that one", desk.invoke(around), DONE);
    dueCounts("from one to that one", desk, 6, 6, 0, 0);
    due("and nothing is left over", desk.invoke(checksNone), DONE);
    due("nor is one current", desk.invoke(checksOne), out(MISSING));
  }

  private static void tenDeep() {
    for (int mode : new int[] {REQUIRED, REQUIRES_NEW, NESTED, SUPPORTS}) {
      PropagationDesk desk = new PropagationDesk();
      make(desk, mode, ADD, 0, 1);
      for (int m = 1; m < 10; m++) {
        make(desk, mode, CALL, m - 1, -1);
      }
      int begun = mode == REQUIRES_NEW ? 10 : mode == SUPPORTS ? 0 : 1;
      due("ten deep in mode " + mode, desk.invoke(9), DONE);
      due("ten deep in mode " + mode + ": calls()", desk.calls(), 10);
      dueCounts("ten deep in mode " + mode, desk, begun, begun, 0, 0);
      dueValues("ten deep in mode " + mode, desk, 1);
    }
  }

  private static void noMethod() {
    PropagationDesk desk = new PropagationDesk();
    int m = make(desk, REQUIRED, PUT, 0, 1);
    due("invoke(-1)", desk.invoke(-1), -1);
    due("invoke(1)", desk.invoke(1), -1);
    due("invoke(least)", desk.invoke(Integer.MIN_VALUE), -1);
    due("invoke(most)", desk.invoke(Integer.MAX_VALUE), -1);
    desk.invoke(m);
    due("invoke(1) later", desk.invoke(1), -1);
    dueEvents("a refused invocation is not the latest", desk, putEvent(0), COMMIT_EVENT);
    due("a refused invocation is not the latest: calls()", desk.calls(), 1);
  }
}
