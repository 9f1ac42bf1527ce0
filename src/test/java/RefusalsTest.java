/** A call that throws an exception changes nothing, where there is much that it could change. */
public final class RefusalsTest {
    private static final String SENTENCE = "Terms: A call that throws an exception changes nothing: ";

    /**
     * The ticket 0 is of yesterday, 1 and 6 are in rooms, 3, 2 and 4 in a queue, 7 is void, 5 and 8 are in none; the works
     * 0 and 2 are lent and have brought fees, 1 and 3 are at home; the members 0 to 2 have memberships.
     */
    private static final String[] BUSY_DAY = {
        "setPrice(NONE, 1501)", "setPrice(0, 7)", "join(0..1)", "buy(0) 0", "visit(0, 0)", "advance(1)", "join(2) 30",
        "addWork(0|0|3|9) 0..3", "setShare(1, 33)", "lend(0, 3, 50)", "lend(2, 0, 5)", "setCap(3, 1)", "setCap(0, 2)",
        "close(11, true)", "buy(1) 1", "buy(NONE) 2", "admit(0, false) 3", "admit(0, true) 4", "admit(0, true) 5",
        "admit(1, false) 6", "buy(3) 7", "buy(1) 8", "enter(1, 3) true", "enter(2|4|3, 3) false", "enter(6, 0) true",
        "close(9..10, true)", "giveBack(7) 600", "close(9..10, false)", "sell(2, 1, 100) 67", "give(2, 9, 2) 11",
    };

    public static void main(String[] args) {
        busyDay();
        tickets();
        rooms();
        works();
        money();
        looks();
        allTicketsAndWorks();
        lastDay();
        Check.end();
    }

    private static void refused(String what, String... rows) {
        String[] all = new String[BUSY_DAY.length + rows.length];
        System.arraycopy(BUSY_DAY, 0, all, 0, BUSY_DAY.length);
        System.arraycopy(rows, 0, all, BUSY_DAY.length, rows.length);
        Runs.run(SENTENCE + what, all);
    }

    private static void busyDay() {
        refused("what there is on the busy day", "queue(3) 3 2 4", "inside(3) 1", "inside(0) 1", "allMoney() 398 85 -45 78 0",
                "advance(1)", "bringHome(0, 0) 50", "bringHome(2, 3) 5");
    }

    private static void tickets() {
        refused("setPrice", "setPrice(-2|4, 9) throws IndexOutOfBounds", "setPrice(-1..3, -1|10001) throws IllegalArgument");
        refused("buy", "buy(-2|4) throws IndexOutOfBounds");
        refused("admit", "admit(-1|6, false|true) throws IndexOutOfBounds", "admit(0|1|3|4|5, false) throws IllegalState",
                "admit(0|2|3|4|5, true) throws IllegalState");
        refused("giveBack", "giveBack(-1|9) throws IndexOutOfBounds", "giveBack(0..8) throws IllegalState");
        refused("giveBack from a queue, and of what has seen a room", "close(0..2|4..10, true)",
                "giveBack(0..6|8) throws IllegalState");
        refused("giveBack of what has seen a room", "close(0..10, true)", "giveBack(0|1|6|7) throws IllegalState");
        refused("join", "join(-1|6) throws IndexOutOfBounds", "join(0..2) throws IllegalState");
    }

    private static void rooms() {
        refused("setCap", "setCap(-1|12, 9) throws IndexOutOfBounds", "setCap(0|3|9|11, -1|21) throws IllegalArgument");
        refused("close", "close(-1|12, true|false) throws IndexOutOfBounds");
        refused("enter what there is not", "enter(-1|9, 3|11) throws IndexOutOfBounds", "enter(0..8, -1|12) throws IndexOutOfBounds");
        refused("enter by one of yesterday, void, in a room, in a queue", "enter(0|7|1|6|3|2|4, 0|3|9|11) throws IllegalState");
        refused("enter a closed room, or one of another house", "enter(5|8, 11) throws IllegalState",
                "enter(8, 0..2|6..10) throws IllegalState");
        refused("goOut", "goOut(-1|9) throws IndexOutOfBounds", "goOut(0|5|7|8) throws IllegalState");
    }

    private static void works() {
        refused("addWork", "addWork(-1|12) throws IndexOutOfBounds");
        refused("hang", "hang(-1|4, 0) throws IndexOutOfBounds", "hang(0..3, -1|12) throws IndexOutOfBounds",
                "hang(0, 0..2|6..11) throws IllegalState", "hang(1, 3..11) throws IllegalState", "hang(2, 3..11) throws IllegalState",
                "hang(3, 0..8) throws IllegalState");
        refused("lend", "lend(-1|4, 6, 1) throws IndexOutOfBounds", "lend(0..3, -1|12, 1) throws IndexOutOfBounds",
                "lend(0..3, 0|3|6|9, -1|1001) throws IllegalArgument", "lend(0|2, 0|3|6|9, 1) throws IllegalState",
                "lend(1, 0..2, 1) throws IllegalState", "lend(3, 9..11, 1) throws IllegalState");
        refused("bringHome", "bringHome(-1|4, 0) throws IndexOutOfBounds", "bringHome(0..3, -1|12) throws IndexOutOfBounds",
                "bringHome(0, 3|6|9) throws IllegalState", "bringHome(2, 0|6|9) throws IllegalState",
                "bringHome(1|3, 0|3|6|9) throws IllegalState");
    }

    private static void money() {
        refused("setShare", "setShare(-1|4, 9) throws IndexOutOfBounds", "setShare(0..3, -1|101) throws IllegalArgument");
        refused("sell", "sell(-1|4, 0, 9) throws IndexOutOfBounds", "sell(0, -1|4, 9) throws IndexOutOfBounds",
                "sell(0|2, 0|1, 0|100001) throws IllegalArgument");
        refused("give", "give(-1|4, 9, 0) throws IndexOutOfBounds", "give(0, 9, -2|6) throws IndexOutOfBounds",
                "give(0|2, 0|100001, -1|0|5) throws IllegalArgument");
        refused("advance", "advance(-1|0|61) throws IllegalArgument");
    }

    private static void looks() {
        refused("whereIs, seen", "whereIs(-1|9) throws IndexOutOfBounds", "seen(-1|9) throws IndexOutOfBounds");
        refused("inside, queued", "inside(-1|12) throws IndexOutOfBounds", "queued(-1|12, 0) throws IndexOutOfBounds",
                "queued(3, -1) throws IndexOutOfBounds");
        refused("views, titleAt", "views(-1|4) throws IndexOutOfBounds", "titleAt(-1|4, 0) throws IndexOutOfBounds",
                "titleAt(0, -1) throws IndexOutOfBounds");
        refused("money, moneyBySeen", "money(-2|4) throws IndexOutOfBounds", "moneyBySeen(-2|4) throws IndexOutOfBounds");
    }

    private static void allTicketsAndWorks() {
        refused("when there are 80 tickets", "71 x buy(2)", "buy(-1..3) throws IllegalState", "admit(2, false) throws IllegalState",
                "admit(1, true) throws IllegalState", "buy(-2|4) throws IndexOutOfBounds");
        refused("when there are 12 works", "8 x addWork(0)", "addWork(0|11) throws IllegalState",
                "addWork(-1|12) throws IndexOutOfBounds");
    }

    private static void lastDay() {
        refused("when the day would be above 2000", "32 x advance(60)", "advance(29) 1950", "buy(NONE) 9", "enter(9, 0) true",
                "advance(51|60) throws IllegalState", "advance(0|61) throws IllegalArgument", "advance(50) 2000",
                "join(0)", "buy(NONE) 10", "enter(10, 0) true", "advance(1|60) throws IllegalState");
    }
}
