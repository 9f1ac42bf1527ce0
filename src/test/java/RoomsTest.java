/** Promises 7 to 10 and 21 to 24: rooms, queues, and who is where. */
public final class RoomsTest {
    private static final int NONE = MuseumTill.NONE;
    private static final int LOW = Integer.MIN_VALUE, HIGH = Integer.MAX_VALUE;

    public static void main(String[] args) {
        promise7SetCap();
        promise8Close();
        promise9Enter();
        promise9EnterRefused();
        promise9QueueOrder();
        promise10GoOut();
        promise21WhereIs();
        promise22Seen();
        promise23Inside();
        promise24Queued();
        Check.end();
    }

    private static MuseumTill withDayTickets(int count) {
        MuseumTill till = new MuseumTill();
        for (int i = 0; i < count; i++) {
            till.buy(NONE);
        }
        return till;
    }

    private static void enterAll(MuseumTill till, int room, int first, int last) {
        for (int ticket = first; ticket <= last; ticket++) {
            till.enter(ticket, room);
        }
    }

    private static void dueQueue(MuseumTill till, int room, int... tickets) {
        for (int place = 0; place < tickets.length; place++) {
            Check.due("queued(" + room + ", " + place + ")", till.queued(room, place), tickets[place]);
        }
        Check.due("queued behind the last one", till.queued(room, tickets.length), NONE);
    }

    private static void promise7SetCap() {
        MuseumTill till = withDayTickets(6);
        for (int room : new int[] {LOW, -1, 12, HIGH}) {
            Check.outOfBounds(till, "setCap(" + room + ", 1)", () -> till.setCap(room, 1));
            Check.outOfBounds(till, "setCap(" + room + ", -1)", () -> till.setCap(room, -1));
        }
        enterAll(till, 11, 0, 5);
        for (int cap : new int[] {LOW, -1, 21, HIGH}) {
            Check.badArgument(till, "setCap(11, " + cap + ")", () -> till.setCap(11, cap));
        }
        Check.due("inside(11) at the first cap", till.inside(11), 3);
        dueQueue(till, 11, 3, 4, 5);
        Check.due("setCap(11, 0)", till.setCap(11, 0), 3);
        Check.due("inside(11) above the cap", till.inside(11), 3);
        Check.due("setCap(11, 3)", till.setCap(11, 3), 3);
        Check.due("setCap(11, 5)", till.setCap(11, 5), 5);
        dueQueue(till, 11, 5);
        Check.due("setCap(11, 20)", till.setCap(11, 20), 6);
        dueQueue(till, 11);
        Check.due("setCap(0, 20) of an empty room", till.setCap(0, 20), 0);
        till.setCap(0, 0);
        till.advance(1);
        till.buy(NONE);
        Check.due("the cap stays on the next day", till.enter(6, 0), false);
    }

    private static void promise8Close() {
        MuseumTill till = withDayTickets(7);
        for (int room : new int[] {LOW, -1, 12, HIGH}) {
            Check.outOfBounds(till, "close(" + room + ", true)", () -> till.close(room, true));
            Check.outOfBounds(till, "close(" + room + ", false)", () -> till.close(room, false));
        }
        enterAll(till, 2, 0, 4);
        enterAll(till, 3, 5, 6);
        Check.due("close(2, false) of an open room", till.close(2, false), 0);
        Check.due("inside(2) after that", till.inside(2), 3);
        Check.due("close(2, true)", till.close(2, true), 5);
        Check.due("inside(2)", till.inside(2), 0);
        Check.due("inside(3)", till.inside(3), 2);
        dueQueue(till, 2);
        for (int ticket = 0; ticket < 5; ticket++) {
            Check.due("whereIs", till.whereIs(ticket), NONE);
            Check.due("seen: none came in from the queue", till.seen(ticket), ticket < 3 ? 4 : 0);
        }
        Check.due("close(2, true) again", till.close(2, true), 0);
        Check.badState(till, "enter(0, 2) when closed", () -> till.enter(0, 2) ? 1 : 0);
        till.advance(1);
        till.buy(0);
        Check.badState(till, "enter(7, 2): closed on the next day too", () -> till.enter(7, 2) ? 1 : 0);
        Check.due("close(2, false)", till.close(2, false), 0);
        Check.due("enter(7, 2)", till.enter(7, 2), true);
    }

    private static void promise9Enter() {
        MuseumTill till = withDayTickets(5);
        till.setCap(4, 2);
        Check.due("enter(0, 4)", till.enter(0, 4), true);
        Check.due("enter(1, 4)", till.enter(1, 4), true);
        Check.due("enter(2, 4)", till.enter(2, 4), false);
        Check.due("enter(3, 4)", till.enter(3, 4), false);
        Check.due("inside(4)", till.inside(4), 2);
        dueQueue(till, 4, 2, 3);
        till.setCap(4, 1);
        till.goOut(0);
        Check.due("inside(4) at the cap", till.inside(4), 1);
        dueQueue(till, 4, 2, 3);
        till.goOut(1);
        Check.due("whereIs(2) after its turn", till.whereIs(2), 4);
        dueQueue(till, 4, 3);
        till.setCap(5, 0);
        Check.due("enter(4, 5) with the cap 0", till.enter(4, 5), false);
        Check.due("enter(0, 4) again", till.enter(0, 4), false);
        dueQueue(till, 4, 3, 0);
    }

    private static void promise9EnterRefused() {
        MuseumTill till = withDayTickets(2);
        till.buy(1);
        for (int number : new int[] {LOW, -1, 3, HIGH}) {
            Check.outOfBounds(till, "enter(" + number + ", 0)", () -> till.enter(number, 0) ? 1 : 0);
        }
        for (int room : new int[] {LOW, -1, 12, HIGH}) {
            Check.outOfBounds(till, "enter(0, " + room + ")", () -> till.enter(0, room) ? 1 : 0);
        }
        Check.badState(till, "enter(2, 2) of house 0", () -> till.enter(2, 2) ? 1 : 0);
        Check.badState(till, "enter(2, 6) of house 2", () -> till.enter(2, 6) ? 1 : 0);
        till.setCap(0, 1);
        till.enter(0, 0);
        till.enter(1, 0);
        for (int room : new int[] {0, 1}) {
            Check.badState(till, "enter(0, " + room + ") from a room", () -> till.enter(0, room) ? 1 : 0);
            Check.badState(till, "enter(1, " + room + ") from a queue", () -> till.enter(1, room) ? 1 : 0);
        }
        till.close(3, true);
        Check.badState(till, "enter(2, 3) when closed", () -> till.enter(2, 3) ? 1 : 0);
        Check.due("enter(2, 4)", till.enter(2, 4), true);
        till.advance(1);
        Check.badState(till, "enter(0, 1) on the next day", () -> till.enter(0, 1) ? 1 : 0);
        Check.outOfBounds(till, "enter(0, 12) on the next day", () -> till.enter(0, 12) ? 1 : 0);
    }

    private static void promise9QueueOrder() {
        MuseumTill till = new MuseumTill();
        till.join(0);
        till.join(1);
        till.join(2);
        till.buy(0);
        till.admit(0, false);
        till.admit(0, true);
        till.buy(NONE);
        till.admit(1, false);
        till.admit(2, false);
        till.setCap(1, 0);
        for (int ticket : new int[] {2, 5, 0, 1, 3, 4}) {
            Check.due("enter(" + ticket + ", 1)", till.enter(ticket, 1), false);
        }
        dueQueue(till, 1, 5, 1, 4, 2, 0, 3);
        Check.due("setCap(1, 2)", till.setCap(1, 2), 2);
        dueQueue(till, 1, 4, 2, 0, 3);
        till.goOut(4);
        till.goOut(5);
        dueQueue(till, 1, 0, 3);
        till.enter(4, 1);
        dueQueue(till, 1, 4, 0, 3);
    }

    private static void promise10GoOut() {
        MuseumTill till = withDayTickets(5);
        for (int ticket : new int[] {LOW, -1, 5, HIGH}) {
            Check.outOfBounds(till, "goOut(" + ticket + ")", () -> till.goOut(ticket));
        }
        Check.badState(till, "goOut(0) of none", () -> till.goOut(0));
        till.setCap(7, 1);
        enterAll(till, 7, 0, 3);
        Check.due("goOut(2) of the queue", till.goOut(2), 7);
        Check.due("inside(7)", till.inside(7), 1);
        dueQueue(till, 7, 1, 3);
        Check.badState(till, "goOut(2) again", () -> till.goOut(2));
        Check.due("goOut(0)", till.goOut(0), 7);
        Check.due("whereIs(1) after that", till.whereIs(1), 7);
        Check.due("seen(2) of the queue alone", till.seen(2), 0);
        dueQueue(till, 7, 3);
        till.advance(1);
        Check.badState(till, "goOut(1) on the next day", () -> till.goOut(1));
    }

    private static void promise21WhereIs() {
        MuseumTill till = withDayTickets(2);
        for (int ticket : new int[] {LOW, -1, 2, HIGH}) {
            Check.outOfBounds(till, "whereIs(" + ticket + ")", () -> till.whereIs(ticket));
        }
        Check.due("whereIs(0) of none", till.whereIs(0), NONE);
        till.setCap(0, 1);
        enterAll(till, 0, 0, 1);
        Check.due("whereIs(0) in the room 0", till.whereIs(0), 0);
        Check.due("whereIs(1) in the queue of 0", till.whereIs(1), 100);
        till.goOut(0);
        Check.due("whereIs(1) in the room 0", till.whereIs(1), 0);
        till.setCap(11, 0);
        till.enter(0, 11);
        Check.due("whereIs(0) in the queue of 11", till.whereIs(0), 111);
        till.advance(1);
        Check.due("whereIs(0) on the next day", till.whereIs(0), NONE);
        Check.due("whereIs(1) on the next day", till.whereIs(1), NONE);
        Check.due("seen(0): none came in at the day's end", till.seen(0), 1);
    }

    private static void promise22Seen() {
        MuseumTill till = withDayTickets(2);
        for (int ticket : new int[] {LOW, -1, 2, HIGH}) {
            Check.outOfBounds(till, "seen(" + ticket + ")", () -> till.seen(ticket));
        }
        Check.due("seen(0) at first", till.seen(0), 0);
        till.enter(0, 0);
        Check.due("seen(0) in the room 0", till.seen(0), 1);
        till.goOut(0);
        till.enter(0, 11);
        Check.due("seen(0) in the room 11", till.seen(0), 1 + 2048);
        till.goOut(0);
        till.enter(0, 0);
        Check.due("seen(0) in the room 0 again", till.seen(0), 1 + 2048);
        till.setCap(5, 0);
        till.enter(1, 5);
        Check.due("seen(1) in a queue", till.seen(1), 0);
        till.setCap(5, 1);
        Check.due("seen(1) from the queue", till.seen(1), 32);
        till.advance(3);
        Check.due("seen(0) on a later day", till.seen(0), 1 + 2048);
    }

    private static void promise23Inside() {
        MuseumTill till = withDayTickets(25);
        for (int room : new int[] {LOW, -1, 12, HIGH}) {
            Check.outOfBounds(till, "inside(" + room + ")", () -> till.inside(room));
        }
        till.setCap(8, 20);
        enterAll(till, 8, 0, 24);
        Check.due("inside(8)", till.inside(8), 20);
        Check.due("inside(7)", till.inside(7), 0);
        till.goOut(24);
        Check.due("inside(8) when one of the queue goes", till.inside(8), 20);
        for (int ticket = 0; ticket < 5; ticket++) {
            till.goOut(ticket);
        }
        Check.due("inside(8) when five go", till.inside(8), 19);
        till.advance(1);
        Check.due("inside(8) on the next day", till.inside(8), 0);
    }

    private static void promise24Queued() {
        MuseumTill till = withDayTickets(4);
        for (int room : new int[] {LOW, -1, 12, HIGH}) {
            Check.outOfBounds(till, "queued(" + room + ", 0)", () -> till.queued(room, 0));
        }
        Check.outOfBounds(till, "queued(0, -1)", () -> till.queued(0, -1));
        Check.outOfBounds(till, "queued(0, low)", () -> till.queued(0, LOW));
        Check.due("queued(0, 0) of none", till.queued(0, 0), NONE);
        till.setCap(9, 1);
        enterAll(till, 9, 0, 3);
        dueQueue(till, 9, 1, 2, 3);
        Check.due("queued(9, 100)", till.queued(9, 100), NONE);
        Check.due("queued(9, high)", till.queued(9, HIGH), NONE);
        till.advance(1);
        dueQueue(till, 9);
    }
}
