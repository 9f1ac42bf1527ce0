/** Prices, tickets and members: promises 1 to 6, and what the terms say of them. */
public final class TicketsTest {
    public static void main(String[] args) {
        newObject();
        housesAndMembers();
        prices();
        eightyTickets();
        ticketsOfADay();
        buying();
        memberTickets();
        guestTickets();
        halfTheDayPrice();
        givingBack();
        givingBackAndRooms();
        givingBackWhatItCosts();
        memberships();
        Check.end();
    }

    private static void newObject() {
        Runs.run("1: The day 0", "day() 0", "advance(1) 1");
        Runs.run("1: no tickets", "tickets() 0", "whereIs(0) throws IndexOutOfBounds", "buy(0) 0", "tickets() 1");
        Runs.run("1: no memberships", "held() 0", "admit(0..5, false|true) throws IllegalState",
                "join(0..5) 29", "admit(0..5, false) 0..5");
        Runs.run("1: no works", "views(0) throws IndexOutOfBounds", "addWork(0) 0", "views(0) 0");
        Runs.run("Terms: The group and each house have money, 0 at first", "allMoney() 0 0 0 0 0", "takings() 0");
        Runs.run("Terms: money, which may be below 0: the group's",
                "join(0)", "give(1, 3, 0) 3", "allMoney() 0 0 3 0 0", "give(1, 4, 0) 5", "allMoney() -1 0 8 0 0");
        Runs.run("Terms: money, which may be below 0: a house's",
                "addWork(0)", "lend(0, 11, 1) 3", "give(3, 1, NONE)", "2 x buy(3)",
                "enter(0, 11) true", "allMoney() 0 1 0 0 0", "enter(1, 11) true", "allMoney() 0 2 0 0 -1");
        Runs.run("Terms: at most 512 calls: the 512th holds",
                "80 x buy(NONE) 0..79", "215 x visit(79, 11) true", "enter(79, 0) true", "seen(79) 2049");
    }

    private static void housesAndMembers() {
        for (int house = 0; house <= 3; house++) {
            int first = 3 * house;
            StringBuilder others = new StringBuilder();
            for (int room = 0; room < 12; room++) {
                if (room < first || room > first + 2) {
                    others.append(others.length() == 0 ? "" : "|").append(room);
                }
            }
            Runs.run("Terms: the rooms 3 * h to 3 * h + 2 are in the house h", "buy(" + house + ") 0",
                    "visit(0, " + first + ".." + (first + 2) + ") true",
                    "enter(0, " + others + ") throws IllegalState");
        }
        Runs.run("Terms: There are the members 0 to 5",
                "join(LOW|-1|6|HIGH) throws IndexOutOfBounds", "join(0..5) 29");
        Runs.run("Terms: All but SINGLE ones are for all houses",
                "join(0)", "buy(NONE) 0", "admit(0, false) 1", "admit(0, true) 2", "visit(0..2, 0..11) true");
    }

    private static void prices() {
        Runs.run("2: house: 0 to 3, or NONE for the day price",
                "setPrice(LOW|-2|4|HIGH, 600) throws IndexOutOfBounds", "setPrice(NONE, 7) 1500",
                "setPrice(0..3, 7) 600", "setPrice(-1..3, 7) 7");
        Runs.run("2: price: 0 to 10000",
                "setPrice(-1..3, LOW|-1|10001|HIGH) throws IllegalArgument", "setPrice(-1..3, 0)",
                "setPrice(-1..3, LOW|-1|10001|HIGH) throws IllegalArgument", "setPrice(-1..3, 1) 0",
                "setPrice(-1..3, 9999) 1", "setPrice(-1..3, 10000) 9999", "setPrice(-1..3, 10000) 10000");
        Runs.run("2: IndexOutOfBoundsException first", "setPrice(LOW|-2|4|HIGH, LOW|-1|10001|HIGH) throws IndexOutOfBounds",
                "setPrice(-1..3, 8) 1500|600|600|600|600");
        Runs.run("2: Returns the price before: each has its own",
                "setPrice(-1..3, 1)", "setPrice(0, 10) 1", "setPrice(3, 13) 1", "setPrice(NONE, 9) 1",
                "setPrice(-1..3, 0) 9|10|1|1|13", "setPrice(3, 5) 0");
    }

    private static void eightyTickets() {
        Runs.run("Terms: Tickets are numbered from 0; there can be 80 in all",
                "79 x buy(0) 0..78", "tickets() 79", "buy(NONE) 79", "tickets() 80",
                "buy(-1..3) throws IllegalState", "advance(1)", "buy(NONE|0) throws IllegalState", "tickets() 80");
        Runs.run("3: IndexOutOfBoundsException ahead of: if there are 80",
                "80 x buy(0)", "buy(LOW|-2|4|HIGH) throws IndexOutOfBounds");
        Runs.run("Terms: 80 in all, void ones too",
                "79 x buy(1)", "close(3..5, true)", "giveBack(78) 600", "tickets() 79", "buy(0) 79",
                "giveBack(77) 600", "buy(0|NONE) throws IllegalState", "tickets() 80");
        Runs.run("4: if there are 80: a MEMBER ticket",
                "join(0..1)", "79 x buy(0)", "admit(0, false) 79", "admit(1, false) throws IllegalState",
                "admit(-1|6, false) throws IndexOutOfBounds");
        Runs.run("4: if there are 80: a GUEST ticket",
                "join(0)", "admit(0, false) 0", "78 x buy(0)", "admit(0, true) 79", "admit(0, true) throws IllegalState",
                "admit(-1|6, true) throws IndexOutOfBounds");
    }

    private static void ticketsOfADay() {
        Runs.run("Terms: A ticket is for the day on which it is bought",
                "advance(4)", "buy(0) 0", "buy(NONE) 1", "visit(0..1, 0) true", "advance(1)",
                "enter(0..1, 0..1) throws IllegalState", "buy(0) 2", "enter(2, 0) true");
        Runs.run("Terms: for the day: MEMBER and GUEST ones too",
                "join(0)", "admit(0, false)", "admit(0, true)", "visit(0..1, 0) true", "advance(1)",
                "enter(0..1, 0) throws IllegalState");
        Runs.run("Terms: What a ticket costs is held until the day ends",
                "buy(0)", "buy(NONE)", "held() 2100", "allMoney() 0 0 0 0 0", "advance(1)", "held() 0",
                "allMoney() 2100 0 0 0 0", "buy(3)", "held() 600", "advance(1)", "held() 0", "allMoney() 2700 0 0 0 0");
    }

    private static void buying() {
        Runs.run("3: house: 0 to 3 for a SINGLE one, NONE for a DAY one",
                "buy(LOW|-2|4|HIGH) throws IndexOutOfBounds", "tickets() 0", "buy(-1..3) 0..4", "tickets() 5");
        Runs.run("Terms: a SINGLE one at the price of that (600 at first)",
                "buy(0..3)", "held() 2400", "setPrice(2, 601)", "buy(2)", "held() 3001", "buy(3)", "held() 3601");
        Runs.run("Terms: a DAY one at the day price (1500 at first)",
                "buy(NONE)", "held() 1500", "setPrice(0..3, 0)", "buy(NONE)", "held() 3000",
                "setPrice(NONE, 1501)", "buy(NONE)", "held() 4501");
        Runs.run("Terms: at the price: the lowest and the highest",
                "setPrice(0|NONE, 0)", "buy(0|NONE)", "held() 0", "takings() 0",
                "setPrice(0|NONE, 10000) 0", "buy(0|NONE)", "held() 20000", "takings() 20000",
                "advance(1)", "allMoney() 20000 0 0 0 0");
        Runs.run("Terms: What a ticket costs: no later price",
                "buy(0)", "setPrice(0, 10000) 600", "held() 600", "advance(1)", "allMoney() 600 0 0 0 0");
    }

    private static void memberTickets() {
        Runs.run("4: member: 0 to 5",
                "admit(LOW|-1|6|HIGH, false|true) throws IndexOutOfBounds", "join(0..5)", "admit(0..5, false) 0..5",
                "admit(0..5, true) 6..11", "admit(LOW|-1|6|HIGH, false|true) throws IndexOutOfBounds");
        Runs.run("4: if there is no membership",
                "join(1)", "admit(0|2, false|true) throws IllegalState", "admit(1, false) 0",
                "admit(0|2, false|true) throws IllegalState", "join(0)", "admit(0, false) 1");
        Runs.run("4: if the membership is over",
                "join(3) 29", "advance(29)", "admit(3, false) 0", "admit(3, true) 1", "advance(1)",
                "admit(3, false|true) throws IllegalState", "join(3) 59", "admit(3, true) throws IllegalState",
                "admit(3, false) 2");
        Runs.run("Terms: a MEMBER one, once a day",
                "join(0..1)", "admit(0, false) 0", "admit(0, false) throws IllegalState", "admit(1, false) 1",
                "advance(1)", "admit(0, false) 2", "admit(0, false) throws IllegalState");
        Runs.run("4: a MEMBER ticket of today that is not void",
                "join(0)", "admit(0, false) 0", "close(0..11, true)", "admit(0, false) throws IllegalState",
                "giveBack(0) 0", "admit(0, false) 1", "admit(0, false) throws IllegalState", "giveBack(1) 0",
                "admit(0, false) 2");
        Runs.run("Terms: a MEMBER one without a price",
                "join(0)", "admit(0, false)", "held() 6000", "takings() 6000", "advance(1)", "allMoney() 200 0 0 0 0");
    }

    private static void guestTickets() {
        Runs.run("Terms: a GUEST one of a member who has a MEMBER ticket of today",
                "join(0..1)", "admit(0, true) throws IllegalState", "admit(0, false) 0", "admit(1, true) throws IllegalState",
                "admit(0, true) 1", "advance(1)", "admit(0, true) throws IllegalState", "admit(0, false) 2",
                "admit(0, true) 3");
        Runs.run("4: none that is not void (with isGuest)",
                "join(0)", "admit(0, false) 0", "close(0..11, true)", "giveBack(0) 0", "admit(0, true) throws IllegalState",
                "admit(0, false) 1", "admit(0, true) 2");
        Runs.run("Terms: at most 2 a day",
                "join(0..1)", "admit(0..1, false) 0..1", "admit(0, true) 2", "admit(0, true) 3",
                "admit(0, true) throws IllegalState", "admit(1, true) 4", "admit(1, true) 5",
                "admit(0..1, true) throws IllegalState", "advance(1)", "admit(0, false) 6", "admit(0, true) 7",
                "admit(0, true) 8", "admit(0, true) throws IllegalState");
        Runs.run("Terms: at most 2 a day (void ones do not count)",
                "join(0)", "admit(0, false)", "2 x admit(0, true)", "close(0..11, true)", "giveBack(1) 750",
                "admit(0, true) 3", "admit(0, true) throws IllegalState", "giveBack(2..3) 750", "admit(0, true) 4",
                "admit(0, true) 5", "admit(0, true) throws IllegalState");
        Runs.run("4: 2 such GUEST ones (with isGuest): they do not hinder a MEMBER one",
                "join(0)", "admit(0, false)", "2 x admit(0, true)", "close(0..11, true)", "giveBack(0) 0",
                "admit(0, true) throws IllegalState", "admit(0, false) 3", "admit(0, true) throws IllegalState",
                "giveBack(1) 750", "admit(0, true) 4");
        Runs.run("a reading: guests of a void MEMBER ticket stay, and count",
                "join(0)", "admit(0, false)", "admit(0, true)", "close(0..11, true)", "giveBack(0) 0", "close(4, false)",
                "enter(1, 4) true", "admit(0, false) 2", "admit(0, true) 3", "admit(0, true) throws IllegalState");
    }

    private static void halfTheDayPrice() {
        int[][] pricesAndHalves = {{0, 0}, {1, 0}, {2, 1}, {3, 1}, {1501, 750}, {9999, 4999}, {10000, 5000}};
        for (int[] one : pricesAndHalves) {
            Runs.run("Terms: a GUEST one at half the day price, rounded down",
                    "join(0)", "admit(0, false)", "setPrice(NONE, " + one[0] + ") 1500", "admit(0, true) 1",
                    "held() " + (6000 + one[1]), "takings() " + (6000 + one[1]), "setPrice(NONE, 700)",
                    "close(0..11, true)", "giveBack(1) " + one[1], "held() 6000", "takings() 6000");
        }
    }

    private static void givingBack() {
        Runs.run("5: if there is no such ticket",
                "giveBack(LOW|-1|0|HIGH) throws IndexOutOfBounds", "close(0..2, true)", "2 x buy(0)",
                "giveBack(LOW|-1|2|HIGH) throws IndexOutOfBounds", "giveBack(0..1) 600");
        Runs.run("5: if it is not of today",
                "close(0..2, true)", "2 x buy(0)", "giveBack(0) 600", "advance(1)", "giveBack(1) throws IllegalState",
                "buy(0)", "giveBack(2) 600", "giveBack(1) throws IllegalState");
        Runs.run("5: or void",
                "close(0..2, true)", "2 x buy(0)", "giveBack(0) 600", "giveBack(0) throws IllegalState",
                "giveBack(1) 600", "giveBack(0..1) throws IllegalState", "takings() 0");
        Runs.run("Terms: can be given back, if it has seen no room",
                "2 x buy(0)", "visit(0, 1) true", "close(0..2, true)", "giveBack(0) throws IllegalState", "giveBack(1) 600");
        Runs.run("Terms: seen no room: a queue is none",
                "3 x buy(0)", "setCap(0, 1)", "enter(0, 0) true", "enter(1, 0) false", "enter(2, 0) false",
                "goOut(0)", "close(0..2, true)", "giveBack(0..1) throws IllegalState", "giveBack(2) 600");
        Runs.run("Terms: can be given back, if it is in no queue",
                "buy(2)", "setCap(7, 0)", "close(6|8, true)", "enter(0, 7) false", "giveBack(0) throws IllegalState",
                "goOut(0) 7", "giveBack(0) throws IllegalState", "close(7, true)", "giveBack(0) 600");
        Runs.run("Terms: and it is void",
                "join(0)", "buy(0)", "admit(0, false)", "close(0..11, true)", "giveBack(0) 600", "giveBack(1) 0",
                "close(0..11, false)", "enter(0..1, 0) throws IllegalState", "goOut(0..1) throws IllegalState",
                "whereIs(0..1) NONE", "seen(0..1) 0", "tickets() 2");
    }

    private static void givingBackAndRooms() {
        for (int room = 0; room < 12; room++) {
            int house = room / 3;
            String ofHouse = 3 * house + ".." + (3 * house + 2);
            Runs.run("Terms: all rooms of the houses that it is for are closed: a SINGLE one", "buy(" + house + ")",
                    "giveBack(0) throws IllegalState", "close(" + ofHouse + ", true)", "close(" + room + ", false)",
                    "giveBack(0) throws IllegalState", "close(" + room + ", true)", "giveBack(0) 600");
            Runs.run("Terms: all rooms of the houses that it is for are closed: the others",
                    "join(0)", "buy(NONE)", "admit(0, false)", "admit(0, true)", "close(0..11, true)",
                    "close(" + room + ", false)", "giveBack(0..2) throws IllegalState", "close(" + room + ", true)",
                    "giveBack(0) 1500", "giveBack(2) 750", "giveBack(1) 0");
        }
    }

    private static void givingBackWhatItCosts() {
        Runs.run("Terms: what it costs is paid back",
                "setPrice(0, 10000)", "setPrice(1, 0)", "buy(0..1)", "buy(NONE)", "setPrice(-1..1, 5)",
                "close(0..11, true)", "takings() 11500", "giveBack(0) 10000", "held() 1500", "takings() 1500",
                "giveBack(1) 0", "takings() 1500", "giveBack(2) 1500", "held() 0", "takings() 0", "advance(1)",
                "allMoney() 0 0 0 0 0");
        Runs.run("5: a ticket given back brings nothing, the next one does",
                "2 x buy(3)", "close(9..11, true)", "giveBack(0) 600", "advance(1)", "allMoney() 600 0 0 0 0");
    }

    private static void memberships() {
        Runs.run("6: member: 0 to 5", "join(LOW|-1|6|HIGH) throws IndexOutOfBounds", "join(0..5) 29",
                "join(LOW|-1|6|HIGH) throws IndexOutOfBounds", "takings() 36000");
        Runs.run("6: if it has one that is not over",
                "join(0) 29", "join(0) throws IllegalState", "advance(1)", "join(0) throws IllegalState", "advance(28) 29",
                "join(0) throws IllegalState", "advance(1) 30", "join(0) 59", "join(0) throws IllegalState",
                "advance(29) 59", "join(0) throws IllegalState", "advance(1) 60", "join(0) 89");
        Runs.run("6: not over: each member has its own",
                "join(0) 29", "advance(7)", "join(5) 36", "advance(23)", "join(5) throws IllegalState", "join(0) 59",
                "advance(6) 36", "join(5) throws IllegalState", "advance(1)", "join(5) 66");
        Runs.run("Terms: A membership is for 30 days, today counted",
                "advance(3)", "join(2) 32", "held() 6000", "advance(29) 32", "held() 200", "admit(2, false) 0",
                "advance(1) 33", "held() 0", "admit(2, false) throws IllegalState");
        Runs.run("Terms: and costs 6000: 200 are for each of its days, held until then",
                "join(0)", "takings() 6000", "held() 6000", "allMoney() 0 0 0 0 0", "advance(1)", "held() 5800",
                "allMoney() 200 0 0 0 0", "advance(28)", "held() 200", "allMoney() 5800 0 0 0 0", "advance(1)", "held() 0",
                "allMoney() 6000 0 0 0 0", "advance(1)", "held() 0", "allMoney() 6000 0 0 0 0");
        Runs.run("Terms: It can be bought again when it is over: days between are without",
                "join(0) 29", "advance(35)", "join(0) 64", "held() 6000", "takings() 12000", "advance(1)",
                "allMoney() 6200 0 0 0 0", "advance(29)", "allMoney() 12000 0 0 0 0");
        Runs.run("6: Returns its last day, also beyond the last one there is",
                "33 x advance(60)", "join(0) 2009", "advance(20) 2000", "join(0) throws IllegalState", "join(1) 2029",
                "held() 8000", "allMoney() 4000 0 0 0 0");
    }
}
