/** How days end, and the money: promises 18 to 20 and 27 to 30, and what the terms say of them. */
public final class DaysTest {
    public static void main(String[] args) {
        advancing();
        lastDay();
        numbers();
        allGoOut();
        theNextDay();
        shares();
        sharesOfFewCents();
        ticketsOfTheHouses();
        membershipDays();
        memberTicketsOfTheDay();
        moneyOfWhom();
        moneyAtOnce();
        held();
        takings();
        Check.end();
    }

    private static void advancing() {
        Runs.run("18: days: 1 to 60", "advance(LOW|-1|0|61|HIGH) throws IllegalArgument", "day() 0", "advance(1) 1",
                "advance(LOW|-1|0|61|HIGH) throws IllegalArgument", "advance(2) 3", "advance(59) 62", "advance(60) 122");
        Runs.run("18: Returns the day then", "advance(1) 1", "day() 1", "advance(60) 61", "day() 61");
    }

    private static void lastDay() {
        Runs.run("18: if the day would be above 2000: by 1",
                "33 x advance(60)", "advance(18) 1998", "advance(3) throws IllegalState", "day() 1998", "advance(1) 1999",
                "advance(2) throws IllegalState", "advance(1) 2000", "advance(1) throws IllegalState", "day() 2000");
        Runs.run("18: if the day would be above 2000: by 60",
                "32 x advance(60)", "advance(21) 1941", "advance(60) throws IllegalState", "advance(59) 2000",
                "advance(1..2|59..60) throws IllegalState");
        Runs.run("18: not above 2000: by 60", "32 x advance(60)", "advance(20) 1940", "advance(60) 2000");
        Runs.run("18: IllegalArgumentException first",
                "33 x advance(60)", "advance(20) 2000", "advance(LOW|-1|0|61|HIGH) throws IllegalArgument");
        Runs.run("18: above 2000: no day ends then",
                "33 x advance(60)", "advance(19) 1999", "join(0)", "buy(NONE)", "enter(0, 0)", "advance(2) throws IllegalState",
                "whereIs(0) 0", "held() 7500", "allMoney() 0 0 0 0 0", "advance(1) 2000", "whereIs(0) NONE", "held() 5800",
                "allMoney() 200 1500 0 0 0", "buy(0) 1", "enter(1, 2) true");
    }

    private static void numbers() {
        Runs.run("19: Returns the day", "day() 0", "buy(0)", "day() 0", "advance(1)", "day() 1", "advance(60)", "day() 61");
        Runs.run("20: Returns the number of tickets: void ones and those of other days too",
                "tickets() 0", "join(0)", "tickets() 0", "buy(0)", "tickets() 1", "buy(NONE)", "admit(0, false)", "admit(0, true)",
                "tickets() 4", "close(0..11, true)", "giveBack(0)", "tickets() 4", "advance(1)", "tickets() 4", "buy(3)",
                "tickets() 5");
    }

    private static void allGoOut() {
        Runs.run("Terms: When a day ends, all go out of rooms and queues at once, so that nobody enters from a queue",
                "addWork(0)", "lend(0, 3, 100)", "setCap(3, 1)", "3 x buy(1)", "enter(0, 3) true", "enter(1..2, 3) false",
                "advance(1)", "whereIs(0..2) NONE", "inside(3) 0", "queue(3) empty", "seen(0..2) 8|0|0", "views(0) 1",
                "allMoney() 1200 100 500 0 0", "bringHome(0, 0) 100");
        Runs.run("Terms: all go out: of each room",
                "buy(NONE)", "12 x buy(NONE)", "enter(0, 0)", "enter(1, 11)", "setCap(5, 0)", "enter(2, 5) false", "advance(1)",
                "inside(0..11) 0", "queued(0..11, 0) NONE", "goOut(0..2) throws IllegalState", "2 x buy(0) 13..14",
                "enter(13, 0) true");
    }

    private static void theNextDay() {
        Runs.run("Terms: Then the next day begins: what was set stays",
                "setPrice(0, 7)", "setPrice(NONE, 9)", "setCap(0, 1)", "close(1, true)", "addWork(0)", "setShare(0, 50)", "advance(1)",
                "2 x buy(0)", "held() 14", "buy(NONE)", "held() 23", "enter(0, 0) true", "enter(1, 0) false",
                "enter(2, 1) throws IllegalState", "setShare(0, 50) 50", "title(0) A0@0");
        Runs.run("Terms: each ticket of the day: of that day alone",
                "buy(0)", "visit(0, 0)", "advance(1)", "allMoney() 0 600 0 0 0", "buy(0)", "advance(1)", "allMoney() 600 600 0 0 0",
                "advance(60)", "allMoney() 600 600 0 0 0");
        Runs.run("18: Lets days end: several at once", "buy(0)", "visit(0, 0)", "join(0)", "advance(3) 3",
                "allMoney() 600 600 0 0 0", "held() 5400");
    }

    private static void shares() {
        int[] eachOf1500 = {0, 1500, 750, 500, 375, 300, 250, 214, 187, 166, 150, 136, 125};
        int[] leftOf1500 = {1500, 0, 0, 0, 0, 0, 0, 2, 4, 6, 0, 4, 0};
        int[] eachOf200 = {0, 200, 100, 66, 50, 40, 33, 28, 25, 22, 20, 18, 16};
        int[] leftOf200 = {200, 0, 0, 2, 0, 0, 2, 4, 0, 2, 0, 2, 8};
        for (int count = 0; count <= 12; count++) {
            dueShares("Terms: the cost, divided by how many they are, rounded down; what is left, or all if it has seen none,"
                    + " goes to the group", "buy(NONE) 0", count, eachOf1500[count], leftOf1500[count]);
            dueShares("Terms: the 200 are shared likewise; they go to the group if it has seen none", "admit(5, false) 0",
                    count, eachOf200[count], leftOf200[count]);
        }
    }

    /** A ticket that sees so many rooms, from the room 0 on. */
    private static void dueShares(String sentence, String ticket, int count, int each, int left) {
        String join = ticket.startsWith("admit") ? "join(5)" : "held() 0";
        String visits = count == 0 ? "seen(0) 0" : "visit(0, 0.." + (count - 1) + ") true";
        StringBuilder money = new StringBuilder("allMoney() ").append(left);
        for (int house = 0; house <= 3; house++) {
            money.append(' ').append(Math.max(0, Math.min(3, count - 3 * house)) * each);
        }
        Runs.run(sentence, join, ticket, visits, "allMoney() 0 0 0 0 0", "advance(1)", money.toString());
    }

    private static void sharesOfFewCents() {
        Runs.run("Terms: divided, rounded down: less than a cent each", "setPrice(1, 2)", "buy(1)", "visit(0, 3..5)",
                "advance(1)", "allMoney() 2 0 0 0 0");
        Runs.run("Terms: divided, rounded down: a cent each", "setPrice(1, 3)", "buy(1)", "visit(0, 3..5)", "advance(1)",
                "allMoney() 0 0 3 0 0");
        Runs.run("Terms: divided, rounded down: a cent each, and more", "setPrice(1, 5)", "buy(1)", "visit(0, 3..5)",
                "advance(1)", "allMoney() 2 0 3 0 0");
        Runs.run("Terms: divided: nothing", "setPrice(1, 0)", "buy(1)", "visit(0, 3..5)", "advance(1)", "allMoney() 0 0 0 0 0");
        Runs.run("Terms: rounded down for each ticket alone", "setPrice(NONE, 1)", "2 x buy(NONE)", "visit(0..1, 0|3)",
                "advance(1)", "allMoney() 2 0 0 0 0");
        Runs.run("Terms: divided by how many rooms they are, each once", "buy(NONE)", "3 x visit(0, 0)", "visit(0, 11)",
                "advance(1)", "allMoney() 0 750 0 0 750");
    }

    private static void ticketsOfTheHouses() {
        for (int room = 0; room < 12; room++) {
            int[] money = new int[4];
            money[room / 3] = 1500;
            Runs.run("Terms: each of these brings it to its house", "buy(NONE)", "enter(0, " + room + ") true", "advance(1)",
                    "allMoney() 0 " + money[0] + " " + money[1] + " " + money[2] + " " + money[3]);
        }
        Runs.run("Terms: or all if it has seen none, goes to the group", "buy(-1..3)", "join(0)", "admit(0, false)",
                "admit(0, true)", "advance(1)", "allMoney() 4850 0 0 0 0");
        Runs.run("Terms: a void one brings nothing", "3 x buy(0)", "visit(0, 0)", "close(0..2, true)", "giveBack(1)", "advance(1)",
                "allMoney() 600 600 0 0 0");
        Runs.run("Terms: GUEST ones bring their cost", "join(0)", "admit(0, false)", "2 x admit(0, true)", "visit(1, 9)",
                "advance(1)", "allMoney() 950 0 0 0 750");
    }

    private static void membershipDays() {
        Runs.run("Terms: they go to the group if it has none", "join(5)", "advance(1)", "allMoney() 200 0 0 0 0");
        Runs.run("Terms: each member whose membership has this day: from the first to the last",
                "advance(2)", "allMoney() 0 0 0 0 0", "join(5) 31", "advance(1)", "allMoney() 200 0 0 0 0", "advance(28)",
                "allMoney() 5800 0 0 0 0", "admit(5, false)", "visit(0, 3) true", "advance(1) 32", "allMoney() 5800 0 200 0 0",
                "advance(1)", "allMoney() 5800 0 200 0 0");
        Runs.run("Terms: each member whose membership has this day: all six", "join(0..5)", "admit(0..5, false)",
                "visit(0, 0)", "visit(1, 3)", "visit(2, 6)", "visit(3, 9)", "visit(4, 0|3)", "advance(1)",
                "allMoney() 200 300 300 200 200", "advance(29)", "allMoney() 35000 300 300 200 200");
    }

    private static void memberTicketsOfTheDay() {
        Runs.run("Terms: the rooms that its MEMBER ticket of the day has seen: not the day before",
                "join(0)", "admit(0, false)", "visit(0, 9) true", "advance(1)", "allMoney() 0 0 0 0 200", "advance(1)",
                "allMoney() 200 0 0 0 200", "admit(0, false)", "advance(1)", "allMoney() 400 0 0 0 200");
        Runs.run("Terms: that its MEMBER ticket has seen: not its guest, nor another member",
                "setPrice(NONE, 0)", "join(0..1)", "admit(0..1, false)", "admit(0, true)", "visit(2, 6)", "visit(1, 9)",
                "advance(1)", "allMoney() 200 0 0 0 200");
        Runs.run("Terms: that its MEMBER ticket has seen: not the void one",
                "join(0)", "admit(0, false) 0", "close(0..11, true)", "giveBack(0) 0", "close(0..11, false)", "admit(0, false) 1",
                "visit(1, 9|0)", "advance(1)", "allMoney() 0 100 0 0 100");
        Runs.run("Terms: if it has none: but the void one",
                "join(0)", "admit(0, false) 0", "close(0..11, true)", "giveBack(0) 0", "advance(1)", "allMoney() 200 0 0 0 0");
    }

    private static void moneyOfWhom() {
        Runs.run("27: house: 0 to 3, or NONE for the group", "money(LOW|-2|4|HIGH) throws IndexOutOfBounds",
                "give(0, 10, NONE)", "give(3, 13, NONE)", "money(-1..3) 0|10|0|0|13",
                "money(LOW|-2|4|HIGH) throws IndexOutOfBounds");
        Runs.run("28: house: 0 to 3, or NONE for the group", "moneyBySeen(LOW|-2|4|HIGH) throws IndexOutOfBounds",
                "give(0, 10, NONE)", "give(3, 13, NONE)", "moneyBySeen(-1..3) 0|10|0|0|13",
                "moneyBySeen(LOW|-2|4|HIGH) throws IndexOutOfBounds");
    }

    private static void moneyAtOnce() {
        Runs.run("28: of days that have ended; fees, sales and gifts at once",
                "addWork(0)", "lend(0, 9, 11)", "join(0|3)", "admit(0, false)", "buy(NONE)", "setPrice(3, 50)", "buy(3)",
                "visit(0, 9|4)", "visit(1, 9|10|1|2)", "sell(1, 0, 10)", "give(2, 40, 3)", "allMoney() -10 24 8 50 -22",
                "advance(1)", "allMoney() 240 774 108 50 828", "advance(28)", "allMoney() 11440 774 108 50 828", "advance(1)",
                "allMoney() 11840 774 108 50 828", "advance(1)", "allMoney() 11840 774 108 50 828");
    }

    private static void held() {
        Runs.run("29: nothing is held at first", "held() 0", "advance(1)", "held() 0");
        Runs.run("29: for tickets of today that are not void",
                "buy(0)", "buy(NONE)", "held() 2100", "close(0..2, true)", "giveBack(0)", "held() 1500", "advance(1)", "held() 0",
                "buy(1)", "held() 600");
        Runs.run("29: and for days of memberships that have not ended", "join(0)", "held() 6000", "advance(1)", "join(1)",
                "held() 11800", "advance(28) 29", "held() 600", "advance(1) 30", "held() 200", "advance(1) 31", "held() 0",
                "advance(1) 32", "held() 0");
        Runs.run("29: for nothing else", "addWork(0)", "lend(0, 3, 9)", "sell(1, 0, 100)", "give(2, 100, NONE)", "held() 0",
                "setPrice(1, 0)", "buy(1)", "enter(0, 3) true", "held() 0");
    }

    private static void takings() {
        Runs.run("30: what was paid for tickets, less what was paid back", "takings() 0", "buy(0)", "takings() 600", "buy(NONE)",
                "takings() 2100", "close(0..2, true)", "giveBack(0)", "takings() 1500", "advance(1)", "takings() 1500");
        Runs.run("30: for memberships", "join(0)", "takings() 6000", "admit(0, false)", "takings() 6000", "admit(0, true)",
                "takings() 6750", "advance(60)", "takings() 6750", "join(0)", "takings() 12750");
        Runs.run("30: for sales and gifts, without what the group and the houses pay to each other",
                "addWork(0)", "lend(0, 3, 9)", "join(0)", "sell(1, 0, 100)", "takings() 6100", "sell(0, 0, 1)", "takings() 6101",
                "give(2, 100, NONE)", "takings() 6201", "give(2, 100, 0) 125", "takings() 6301", "buy(1)", "enter(0, 3) true",
                "takings() 6901", "bringHome(0, 0)", "takings() 6901");
    }
}
