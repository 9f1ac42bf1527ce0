/** Rooms and who is where: promises 7 to 10 and 21 to 24, and what the terms say of them. */
public final class RoomsTest {
    public static void main(String[] args) {
        firstCapOfEachRoom();
        whoCanEnter();
        enterRefused();
        cap();
        queueOrder();
        turns();
        settingCaps();
        capsAndTime();
        closing();
        closingSendsOut();
        goingOut();
        where();
        seen();
        inside();
        queued();
        Check.end();
    }

    private static void firstCapOfEachRoom() {
        for (int room = 0; room < 12; room++) {
            Runs.run("Terms: A room has a cap, 3 at first; it is open at first", "4 x buy(NONE)",
                    "enter(0..2, " + room + ") true", "enter(3, " + room + ") false", "inside(" + room + ") 3",
                    "queue(" + room + ") 3");
        }
    }

    private static void whoCanEnter() {
        Runs.run("Terms: can enter a room that is open",
                "2 x buy(0)", "enter(0, 0) true", "close(0, true)", "enter(0..1, 0) throws IllegalState",
                "enter(0, 1) true", "close(0, false)", "enter(1, 0) true");
        Runs.run("Terms: can enter, if it is in no room",
                "2 x buy(NONE)", "enter(0, 0) true", "enter(0, 0..11) throws IllegalState", "enter(1, 0) true", "goOut(0)",
                "enter(0, 0) true", "goOut(0)", "enter(0, 11) true");
        Runs.run("Terms: can enter, if it is in no queue",
                "2 x buy(NONE)", "setCap(5, 0)", "enter(0, 5) false", "enter(0, 0..11) throws IllegalState",
                "enter(1, 5) false", "goOut(0)", "enter(0, 5) false", "queue(5) 1 0", "goOut(0)", "enter(0, 4) true");
        Runs.run("9: void",
                "2 x buy(0)", "close(0..2, true)", "giveBack(0)", "close(0..2, false)", "enter(0, 0..2) throws IllegalState",
                "enter(1, 0) true");
    }

    private static void enterRefused() {
        Runs.run("9: no such ticket",
                "enter(LOW|-1|0|HIGH, 0) throws IndexOutOfBounds", "2 x buy(0)",
                "enter(LOW|-1|2|HIGH, 0) throws IndexOutOfBounds", "enter(0..1, 0) true");
        Runs.run("9: room: 0 to 11",
                "buy(NONE)", "enter(0, LOW|-1|12|HIGH) throws IndexOutOfBounds", "visit(0, 0|11) true");
        Runs.run("9: IndexOutOfBoundsException first: no such room, and the ticket can enter none",
                "3 x buy(0)", "close(1..2, true)", "enter(0, 0) true", "enter(0, LOW|-1|12|HIGH) throws IndexOutOfBounds",
                "close(0, true)", "giveBack(1)", "enter(1, -1|12) throws IndexOutOfBounds", "advance(1)",
                "enter(2, -1|12) throws IndexOutOfBounds");
        Runs.run("9: IndexOutOfBoundsException first: no such ticket, and the room is closed",
                "buy(0)", "close(0, true)", "enter(LOW|-1|1|HIGH, 0) throws IndexOutOfBounds", "enter(0, 0) throws IllegalState");
    }

    private static void cap() {
        for (int cap : new int[] {1, 2, 3, 4, 20}) {
            Runs.run("Terms: if fewer than the cap are in the room, it is in the room then; otherwise in its queue",
                    cap + 2 + " x buy(1)", "setCap(3, " + cap + ") 0", "enter(0.." + (cap - 1) + ", 3) true",
                    "enter(" + cap + ", 3) false", "enter(" + (cap + 1) + ", 3) false",
                    "inside(3) " + cap, "queue(3) " + cap + " " + (cap + 1));
        }
        Runs.run("Terms: fewer than the cap: none are fewer than 0",
                "2 x buy(1)", "setCap(3, 0) 0", "enter(0..1, 3) false", "inside(3) 0", "queue(3) 0 1", "goOut(0)",
                "enter(0, 4) true");
        Runs.run("Terms: fewer than the cap: more are in it",
                "5 x buy(1)", "enter(0..2, 3) true", "setCap(3, 2) 3", "enter(3, 3) false", "goOut(0)", "enter(4, 3) false",
                "inside(3) 2", "queue(3) 3 4", "goOut(1)", "inside(3) 2", "queue(3) 4");
        Runs.run("Terms: nobody is in its queue: who comes later is behind",
                "4 x buy(1)", "setCap(3, 1)", "enter(0, 3) true", "enter(1, 3) false", "goOut(0)", "enter(0, 3) false",
                "whereIs(1) 3", "queue(3) 0", "goOut(1)", "whereIs(0) 3", "enter(2, 3) false", "goOut(0)", "goOut(2)",
                "enter(3, 3) true");
    }

    private static void queueOrder() {
        Runs.run("Terms: of both sorts those who came first",
                "4 x buy(0)", "setCap(0, 0)", "enter(2|0|3|1, 0) false", "queue(0) 2 0 3 1");
        Runs.run("Terms: of MEMBER ones those who came first",
                "join(0..2)", "admit(0..2, false) 0..2", "setCap(0, 0)", "enter(1|2|0, 0) false", "queue(0) 1 2 0");
        Runs.run("Terms: In a queue MEMBER tickets are ahead of others",
                "join(0..1)", "buy(0) 0", "buy(NONE) 1", "admit(0, false) 2", "admit(0, true) 3", "admit(1, false) 4",
                "setCap(0, 0)", "enter(3, 0) false", "queue(0) 3", "enter(4, 0) false", "queue(0) 4 3", "enter(0, 0) false",
                "enter(2, 0) false", "enter(1, 0) false", "queue(0) 4 2 3 0 1",
                "goOut(4)", "queue(0) 2 3 0 1", "enter(4, 0) false", "queue(0) 2 4 3 0 1");
        Runs.run("Terms: MEMBER tickets, and neither GUEST nor DAY ones, are ahead of others",
                "join(0)", "buy(0) 0", "admit(0, false) 1", "admit(0, true) 2", "buy(NONE) 3", "buy(0) 4", "setCap(0, 0)",
                "enter(0|2|3|4|1, 0) false", "queue(0) 1 0 2 3 4");
        Runs.run("Terms: MEMBER tickets are ahead of others in a queue, not in a room",
                "join(0)", "3 x buy(0)", "admit(0, false) 3", "setCap(0, 2)", "enter(0..1, 0) true", "enter(2, 0) false",
                "enter(3, 0) false", "inside(0) 2", "goOut(0)", "whereIs(3) 0", "whereIs(2) 100", "whereIs(1) 0");
    }

    private static void turns() {
        Runs.run("Terms: the first one of the queue enters: when one goes out",
                "6 x buy(0)", "enter(0..2, 0) true", "enter(3..5, 0) false", "goOut(1) 0", "inside(0) 3", "queue(0) 4 5",
                "whereIs(3) 0", "seen(3) 1", "seen(4) 0");
        Runs.run("Terms: the first one of the queue enters: not when one goes out of the queue",
                "6 x buy(0)", "enter(0..2, 0) true", "enter(3..5, 0) false", "goOut(4) 0", "inside(0) 3", "queue(0) 3 5",
                "goOut(3) 0", "inside(0) 3", "queue(0) 5", "goOut(5) 0", "inside(0) 3", "queue(0) empty");
        Runs.run("Terms: of the queue: each of its places can be left",
                "7 x buy(0)", "setCap(0, 0)", "enter(0..6, 0) false", "goOut(6)", "queue(0) 0 1 2 3 4 5", "goOut(3)",
                "queue(0) 0 1 2 4 5", "goOut(0)", "queue(0) 1 2 4 5", "goOut(4)", "queue(0) 1 2 5", "setCap(0, 3) 3",
                "whereIs(0..6) -1|0|0|-1|-1|0|-1");
        Runs.run("Terms: Whenever fewer than the cap: tickets of all sorts leave their room to others",
                "join(0)", "setCap(0, 1)", "admit(0, false) 0", "admit(0, true) 1", "buy(NONE) 2", "buy(0) 3",
                "enter(0, 0) true", "enter(1..3, 0) false", "goOut(0)", "whereIs(1) 0", "goOut(1)", "whereIs(2) 0", "goOut(2)",
                "whereIs(3) 0", "goOut(3)", "inside(0) 0", "enter(0, 0) true");
        Runs.run("Terms: Whenever fewer than the cap: not as many, nor more",
                "6 x buy(0)", "enter(0..2, 0) true", "enter(3..5, 0) false", "setCap(0, 1) 3", "goOut(0)", "inside(0) 2",
                "goOut(1)", "inside(0) 1", "queue(0) 3 4 5", "goOut(2)", "inside(0) 1", "queue(0) 4 5", "whereIs(3) 0");
        Runs.run("Terms: Whenever fewer than the cap: as many as there is room for",
                "7 x buy(0)", "enter(0..2, 0) true", "enter(3..6, 0) false", "setCap(0, 3) 3", "queue(0) 3 4 5 6",
                "setCap(0, 4) 4", "queue(0) 4 5 6", "setCap(0, 6) 6", "queue(0) 6", "setCap(0, 9) 7", "queue(0) empty");
        Runs.run("Terms: Whenever fewer than the cap: in that room alone",
                "5 x buy(0)", "setCap(0..1, 1)", "enter(0, 0) true", "enter(1, 0) false", "enter(2, 1) true",
                "enter(3, 1) false", "goOut(2)", "whereIs(3) 1", "whereIs(1) 100");
    }

    private static void settingCaps() {
        Runs.run("7: room: 0 to 11",
                "setCap(LOW|-1|12|HIGH, 3) throws IndexOutOfBounds", "setCap(0..11, 0) 0", "buy(NONE)",
                "enter(0, 0) false", "goOut(0)", "enter(0, 11) false");
        Runs.run("7: cap: 0 to 20",
                "setCap(0|11, LOW|-1|21|HIGH) throws IllegalArgument", "4 x buy(0)", "enter(0..2, 0) true", "enter(3, 0) false",
                "setCap(0, LOW|-1|21|HIGH) throws IllegalArgument", "inside(0) 3", "queue(0) 3");
        Runs.run("7: cap: 0 to 20: the highest",
                "22 x buy(0)", "setCap(0, 20) 0", "enter(0..19, 0) true", "enter(20..21, 0) false",
                "setCap(0, 21) throws IllegalArgument", "inside(0) 20", "setCap(0, 19) 20", "goOut(0)", "inside(0) 19",
                "queue(0) 20 21", "goOut(1)", "inside(0) 19", "queue(0) 21");
        Runs.run("7: IndexOutOfBoundsException first", "setCap(LOW|-1|12|HIGH, -1|21) throws IndexOutOfBounds");
        Runs.run("7: who is in it stays, also if they are more",
                "4 x buy(0)", "enter(0..2, 0) true", "enter(3, 0) false", "setCap(0, 3) 3", "setCap(0, 2) 3",
                "setCap(0, 0) 3", "whereIs(0..2) 0", "whereIs(3) 100", "goOut(0..2) 0", "inside(0) 0", "queue(0) 3",
                "setCap(0, 1) 1", "queue(0) empty");
        Runs.run("7: Returns how many are in it then",
                "setCap(4, 1) 0", "4 x buy(1)", "enter(0, 4) true", "enter(1..3, 4) false", "setCap(4, 1) 1", "setCap(4, 2) 2",
                "setCap(4, 20) 4", "setCap(3|5, 20) 0");
    }

    private static void capsAndTime() {
        Runs.run("7: the cap of a closed room holds when it is open",
                "close(0, true)", "setCap(0, 1) 0", "2 x buy(0)", "close(0, false) 0", "enter(0, 0) true", "enter(1, 0) false");
        Runs.run("7: the cap holds when the room has been closed, and on later days",
                "setCap(0, 1)", "close(0, true)", "close(0, false)", "advance(1)", "2 x buy(0)", "enter(0, 0) true",
                "enter(1, 0) false");
    }

    private static void closing() {
        Runs.run("8: room: 0 to 11",
                "close(LOW|-1|12|HIGH, false|true) throws IndexOutOfBounds", "buy(NONE)", "close(0|11, true) 0",
                "enter(0, 0|11) throws IllegalState", "visit(0, 1..10) true", "close(0|11, false) 0", "visit(0, 0|11) true");
        Runs.run("8: Returns how many go out: none are there", "close(3, true) 0", "close(3, true) 0", "close(3, false) 0");
        Runs.run("8: Returns how many go out: of the room",
                "4 x buy(1)", "enter(0, 3) true", "close(3, true) 1", "close(3, false) 0", "enter(0..2, 3) true",
                "close(3, true) 3", "inside(3) 0");
        Runs.run("8: Returns how many go out, those of the queue counted",
                "5 x buy(1)", "enter(0..2, 3) true", "enter(3..4, 3) false", "close(3, true) 5", "close(3, true) 0",
                "queue(3) empty", "close(3, false) 0", "inside(3) 0", "setCap(3, 0)", "enter(0..1, 3) false",
                "close(3, true) 2");
        Runs.run("8: opens it: one that is open", "5 x buy(1)", "enter(0..2, 3) true", "enter(3..4, 3) false",
                "close(3, false) 0", "inside(3) 3", "queue(3) 3 4", "whereIs(0..2) 3");
        Runs.run("8: from now on: also on later days",
                "close(3, true)", "advance(60)", "buy(1)", "enter(0, 3) throws IllegalState", "close(3, false)",
                "enter(0, 3) true");
    }

    private static void closingSendsOut() {
        Runs.run("Terms: When a room is closed, all go out of it, and out of its queue",
                "6 x buy(1)", "enter(0..2, 4) true", "enter(3..4, 4) false", "close(4, true) 5", "whereIs(0..4) NONE",
                "goOut(0|3) throws IllegalState", "enter(0..2, 5) true", "enter(3, 3) true");
        Runs.run("Terms: all go out: nobody enters from its queue then",
                "addWork(4)", "5 x buy(1)", "enter(0..2, 4) true", "enter(3..4, 4) false", "close(4, true) 5", "seen(0..2) 16",
                "seen(3..4) 0", "views(0) 3");
        Runs.run("Terms: all go out of it, and of no other room",
                "7 x buy(1)", "setCap(3..5, 1)", "enter(0, 3) true", "enter(1, 3) false", "enter(2, 4) true",
                "enter(3, 4) false", "enter(4, 5) true", "enter(5, 5) false", "close(4, true) 2", "whereIs(0) 3",
                "whereIs(1) 103", "whereIs(4) 5", "whereIs(5) 105", "goOut(0)", "whereIs(1) 3");
    }

    private static void goingOut() {
        Runs.run("10: no such ticket",
                "goOut(LOW|-1|0|HIGH) throws IndexOutOfBounds", "2 x buy(0)", "enter(0..1, 0)",
                "goOut(LOW|-1|2|HIGH) throws IndexOutOfBounds", "goOut(0..1) 0");
        Runs.run("10: if it is in none",
                "buy(0)", "goOut(0) throws IllegalState", "enter(0, 2)", "goOut(0) 2", "goOut(0) throws IllegalState",
                "setCap(2, 0)", "enter(0, 2) false", "goOut(0) 2", "goOut(0) throws IllegalState");
        Runs.run("10: in none: after a closure, and on the next day",
                "2 x buy(0)", "enter(0, 1)", "close(1, true)", "goOut(0) throws IllegalState", "enter(0..1, 2)", "advance(1)",
                "goOut(0..1) throws IllegalState");
        Runs.run("10: Returns the room",
                "2 x buy(NONE)", "setCap(0|11, 1)", "enter(0, 0)", "enter(1, 0) false", "goOut(1) 0", "goOut(0) 0",
                "enter(0, 11)", "enter(1, 11) false", "goOut(1) 11", "goOut(0) 11");
    }

    private static void where() {
        Runs.run("21: no such ticket",
                "whereIs(LOW|-1|0|HIGH) throws IndexOutOfBounds", "2 x buy(0)",
                "whereIs(LOW|-1|2|HIGH) throws IndexOutOfBounds", "whereIs(0..1) NONE");
        Runs.run("21: the room if it is in it, 100 and the room if it is in its queue; NONE if it is in none",
                "2 x buy(NONE)", "setCap(0|11, 1)", "enter(0, 0)", "enter(1, 0)", "whereIs(0) 0", "whereIs(1) 100", "goOut(0)",
                "whereIs(0) NONE", "whereIs(1) 0", "enter(0, 11)", "goOut(1)", "enter(1, 11)", "whereIs(0) 11",
                "whereIs(1) 111", "goOut(1)", "whereIs(1) NONE", "enter(1, 11)", "advance(1)", "whereIs(0..1) NONE");
    }

    private static void seen() {
        Runs.run("22: no such ticket",
                "seen(LOW|-1|0|HIGH) throws IndexOutOfBounds", "2 x buy(0)", "seen(LOW|-1|2|HIGH) throws IndexOutOfBounds",
                "seen(0..1) 0");
        Runs.run("22: the bit r for the room r",
                "buy(NONE)", "visit(0, 0)", "seen(0) 1", "visit(0, 11)", "seen(0) 2049", "visit(0, 1..10)", "seen(0) 4095");
        Runs.run("Terms: A ticket that is in a room has seen it (once, however often it comes)",
                "3 x buy(0)", "3 x visit(0, 2)", "seen(0) 4", "enter(1, 2)", "seen(1) 4", "seen(2) 0");
        Runs.run("Terms: has seen it: not from the queue, but when it enters from there",
                "2 x buy(0)", "setCap(2, 1)", "enter(0, 2)", "enter(1, 2) false", "seen(1) 0", "goOut(0)", "seen(1) 4");
        Runs.run("Terms: has seen it on this day: what was seen is not lost later",
                "2 x buy(0)", "visit(0, 0..1)", "advance(1)", "seen(0) 3", "seen(1) 0", "buy(0)", "visit(2, 2)", "seen(0) 3",
                "seen(2) 4");
    }

    private static void inside() {
        Runs.run("23: room: 0 to 11", "inside(LOW|-1|12|HIGH) throws IndexOutOfBounds", "inside(0..11) 0", "buy(NONE)",
                "enter(0, 11)", "inside(11) 1", "goOut(0)", "inside(11) 0", "enter(0, 0)", "inside(0) 1");
        Runs.run("23: how many tickets are in a room: not those of its queue",
                "5 x buy(0)", "enter(0..4, 1)", "inside(1) 3", "inside(0|2) 0", "goOut(4)", "inside(1) 3", "goOut(0)",
                "inside(1) 3", "goOut(1)", "inside(1) 2", "advance(1)", "inside(1) 0");
    }

    private static void queued() {
        Runs.run("24: room: 0 to 11",
                "queued(LOW|-1|12|HIGH, 0) throws IndexOutOfBounds", "queued(0..11, 0) NONE", "buy(NONE)", "setCap(0|11, 0)",
                "enter(0, 11)", "queue(11) 0", "goOut(0)", "enter(0, 0)", "queue(0) 0", "queue(11) empty");
        Runs.run("24: if place is below 0",
                "queued(0, LOW|-1) throws IndexOutOfBounds", "2 x buy(0)", "setCap(0, 1)", "enter(0..1, 0)",
                "queued(0, LOW|-1) throws IndexOutOfBounds", "queued(0, 0) 1", "queued(-1|12, -1) throws IndexOutOfBounds");
        Runs.run("24: NONE if there are not so many",
                "queued(0, 0|1|HIGH) NONE", "4 x buy(0)", "setCap(0, 1)", "enter(0..3, 0)", "queued(0, 0..3) 1|2|3|-1",
                "queued(0, HIGH) NONE", "goOut(2)", "queued(0, 0..2) 1|3|-1", "advance(1)", "queued(0, 0) NONE");
    }
}
