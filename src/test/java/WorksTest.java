/** Works, loans, sales and gifts: promises 11 to 17, 25 and 26, and what the terms say of them. */
public final class WorksTest {
    public static void main(String[] args) {
        adding();
        hanging();
        hangingWhileLent();
        lending();
        lendingRefused();
        fees();
        feesOfWhichSight();
        bringingHome();
        loanFees();
        shares();
        sales();
        salesRefused();
        gifts();
        giftsOfMembers();
        giftsRefused();
        views();
        titles();
        Check.end();
    }

    private static void adding() {
        Runs.run("11: room: 0 to 11", "addWork(LOW|-1|12|HIGH) throws IndexOutOfBounds", "addWork(0) 0", "addWork(11) 1",
                "title(0) A0@0", "title(1) D1@11");
        Runs.run("Terms: Works are numbered from 0; there can be 12",
                "11 x addWork(5) 0..10", "views(11) throws IndexOutOfBounds", "addWork(5) 11", "views(11) 0",
                "addWork(0..11) throws IllegalState", "views(12) throws IndexOutOfBounds");
        Runs.run("Terms: there can be 12, those that are lent too",
                "12 x addWork(0)", "lend(0, 3, 1)", "addWork(0) throws IllegalState", "bringHome(0, 0)",
                "addWork(0) throws IllegalState");
        Runs.run("11: IndexOutOfBoundsException first", "12 x addWork(0)", "addWork(LOW|-1|12|HIGH) throws IndexOutOfBounds");
        Runs.run("Terms: A work is of a house, and hangs in a room of it, at first",
                "addWork(2..9)", "title(0) A0@2", "title(1) B1@3", "title(2) B2@4", "title(3) B3@5", "title(4) C4@6",
                "title(5) C5@7", "title(6) C6@8", "title(7) D7@9");
    }

    private static void hanging() {
        Runs.run("12: no such work", "hang(LOW|-1|0|HIGH, 0) throws IndexOutOfBounds", "2 x addWork(0)",
                "hang(LOW|-1|2|HIGH, 0) throws IndexOutOfBounds", "hang(0..1, 0) 0");
        Runs.run("12: room: 0 to 11", "addWork(0)", "addWork(11)", "hang(0..1, LOW|-1|12|HIGH) throws IndexOutOfBounds",
                "hang(0, 0) 0", "hang(1, 11) 11");
        Runs.run("12: IndexOutOfBoundsException first: no such work, or no such room",
                "addWork(0)", "hang(-1|1, -1|12|3) throws IndexOutOfBounds");
        Runs.run("12: in a room of the house in which it is, perhaps the one where it hangs: Returns the room before",
                "addWork(4)", "hang(0, 4) 4", "hang(0, 3) 4", "hang(0, 5) 3", "title(0) B0@5", "hang(0, 5) 5", "hang(0, 4) 5",
                "title(0) B0@4");
        Runs.run("12: if the room is in another house",
                "addWork(5)", "hang(0, 0..2|6..11) throws IllegalState", "hang(0, 3) 5", "hang(0, 2|6) throws IllegalState",
                "addWork(0)", "hang(1, 3..11) throws IllegalState", "addWork(11)", "hang(2, 0..8) throws IllegalState");
    }

    private static void hangingWhileLent() {
        Runs.run("Terms: with the house that has borrowed it, it can be hung in another room of that house",
                "addWork(4)", "lend(0, 6, 9)", "hang(0, 0..5|9..11) throws IllegalState", "hang(0, 8) 6", "hang(0, 8) 8",
                "title(0) B0@8$9", "bringHome(0, 3)", "hang(0, 0..2|6..11) throws IllegalState", "hang(0, 5) 3");
        Runs.run("Terms: hung in another room: the fee is for the room where it hangs",
                "addWork(0)", "lend(0, 6, 9)", "buy(2)", "hang(0, 7) 6", "visit(0, 6) true", "allMoney() 0 0 0 0 0",
                "visit(0, 7) true", "allMoney() 0 9 0 -9 0", "hang(0, 8) 7", "visit(0, 8) true", "allMoney() 0 18 0 -18 0",
                "bringHome(0, 0) 18");
    }

    private static void lending() {
        Runs.run("13: fee: 0 to 1000", "addWork(0)", "lend(0, 3, LOW|-1|1001|HIGH) throws IllegalArgument", "lend(0, 3, 0) 1",
                "title(0) A0@3$0", "bringHome(0, 0)", "lend(0, 3, 1000) 1", "title(0) A0@3$1000");
        Runs.run("13: Returns the house", "addWork(0)", "lend(0, 3, 1) 1", "bringHome(0, 0)", "lend(0, 5, 1) 1",
                "bringHome(0, 0)", "lend(0, 6, 1) 2", "bringHome(0, 0)", "lend(0, 8, 1) 2", "bringHome(0, 0)", "lend(0, 9, 1) 3",
                "bringHome(0, 0)", "lend(0, 11, 1) 3", "addWork(11)", "lend(1, 0, 1) 0");
        Runs.run("Terms: until it goes home: also on later days",
                "addWork(0)", "lend(0, 3, 7)", "advance(60)", "title(0) A0@3$7", "buy(1)", "enter(0, 3)",
                "allMoney() 0 7 -7 0 0", "lend(0, 6, 7) throws IllegalState");
    }

    private static void lendingRefused() {
        Runs.run("13: no such work", "lend(LOW|-1|0|HIGH, 3, 1) throws IndexOutOfBounds", "2 x addWork(0)",
                "lend(LOW|-1|2|HIGH, 3, 1) throws IndexOutOfBounds", "lend(0..1, 3, 1) 1");
        Runs.run("13: room: 0 to 11", "addWork(0)", "addWork(11)", "lend(0..1, LOW|-1|12|HIGH, 1) throws IndexOutOfBounds",
                "lend(0, 11, 1) 3", "lend(1, 0, 1) 0");
        Runs.run("13: if it is lent", "addWork(0)", "lend(0, 3, 5)", "lend(0, 0..11, 6) throws IllegalState",
                "title(0) A0@3$5", "bringHome(0, 0)", "lend(0, 6, 6) 2");
        Runs.run("13: or the room is in its own house", "addWork(4)", "lend(0, 3..5, 1) throws IllegalState",
                "lend(0, 2, 1) 0", "bringHome(0, 5)", "lend(0, 3..5, 1) throws IllegalState", "lend(0, 6, 1) 2");
        Runs.run("13: IndexOutOfBoundsException first, then IllegalArgumentException", "addWork(0)",
                "lend(-1|1, 3, -1|1001) throws IndexOutOfBounds", "lend(0, -1|12, -1|1001) throws IndexOutOfBounds",
                "lend(0, 0..2, -1|1001) throws IllegalArgument", "lend(0, 3, 4)", "lend(0, -1|12, 4) throws IndexOutOfBounds",
                "lend(0, 0|3|6, -1|1001) throws IllegalArgument", "lend(0, 0|3|6, 0|1000) throws IllegalState");
    }

    private static void fees() {
        Runs.run("Terms: the house of the room pays the fee to the house whose work it is, at once: the highest, the lowest",
                "addWork(0|3|6)", "lend(0, 9, 1000)", "lend(1, 9, 0)", "lend(2, 10, 1)", "buy(3)", "enter(0, 9) true",
                "allMoney() 0 1000 0 0 -1000", "views(0..1) 1", "goOut(0)", "enter(0, 10) true", "allMoney() 0 1000 0 1 -1001");
        Runs.run("Terms: for each work that hangs there",
                "addWork(0|3|6|9|6)", "lend(0..2, 11, 5) 3", "buy(3)", "enter(0, 11) true", "allMoney() 0 5 5 5 -15",
                "views(0..4) 1|1|1|0|0");
        Runs.run("Terms: and is lent", "addWork(9|0)", "lend(1, 9, 5)", "buy(3)", "enter(0, 9) true",
                "allMoney() 0 5 0 0 -5", "views(0..1) 1");
        Runs.run("Terms: the fee of the loan: a new loan has its own",
                "addWork(0)", "lend(0, 3, 5)", "buy(1)", "visit(0, 3)", "bringHome(0, 0) 5", "lend(0, 4, 7)", "visit(0, 4)",
                "allMoney() 0 12 -12 0 0", "bringHome(0, 0) 7");
        Runs.run("Terms: the fee is paid by MEMBER and GUEST ones and those without a price too",
                "addWork(0)", "lend(0, 3, 5)", "join(0)", "admit(0, false)", "admit(0, true)", "setPrice(1, 0)", "buy(1)",
                "enter(0..2, 3) true", "allMoney() 0 15 -15 0 0");
    }

    private static void feesOfWhichSight() {
        Runs.run("Terms: When a ticket sees a room for the first time",
                "addWork(0)", "lend(0, 3, 5)", "2 x buy(1)", "visit(0, 3) true", "allMoney() 0 5 -5 0 0", "2 x visit(0, 3) true",
                "allMoney() 0 5 -5 0 0", "visit(1, 3) true", "allMoney() 0 10 -10 0 0", "views(0) 2");
        Runs.run("Terms: for the first time: the room had been seen before the work hung there",
                "addWork(0|3)", "buy(1)", "visit(0, 3..4) true", "lend(0, 3, 5)", "visit(0, 3) true", "hang(0, 4)",
                "visit(0, 4) true", "allMoney() 0 0 0 0 0", "views(0) 0", "hang(0, 5)", "visit(0, 5) true",
                "allMoney() 0 5 -5 0 0");
        Runs.run("Terms: for the first time: who is in the room when the work comes",
                "addWork(0)", "buy(1)", "enter(0, 3) true", "lend(0, 3, 5)", "allMoney() 0 0 0 0 0", "goOut(0)",
                "enter(0, 3) true", "bringHome(0, 0) 0");
        Runs.run("Terms: for the first time: a queue is not yet a sight",
                "addWork(0)", "lend(0, 3, 5)", "2 x buy(1)", "setCap(3, 1)", "enter(0, 3) true", "enter(1, 3) false",
                "allMoney() 0 5 -5 0 0", "goOut(0)", "allMoney() 0 10 -10 0 0", "enter(0, 3) false", "goOut(1)",
                "allMoney() 0 10 -10 0 0");
        Runs.run("Terms: for the first time: by a cap that is set",
                "addWork(0)", "lend(0, 3, 5)", "3 x buy(1)", "setCap(3, 0)", "enter(0..2, 3) false", "setCap(3, 2) 2",
                "allMoney() 0 10 -10 0 0", "views(0) 2", "bringHome(0, 0) 10", "setCap(3, 3) 3", "allMoney() 0 10 -10 0 0",
                "views(0) 2");
        Runs.run("Terms: at home no fee is paid",
                "addWork(0)", "lend(0, 3, 5)", "bringHome(0, 1)", "buy(NONE)", "visit(0, 3|1) true", "allMoney() 0 0 0 0 0",
                "views(0) 1");
    }

    private static void bringingHome() {
        Runs.run("14: no such work", "bringHome(LOW|-1|0|HIGH, 0) throws IndexOutOfBounds", "2 x addWork(0)", "lend(0..1, 3, 1)",
                "bringHome(LOW|-1|2|HIGH, 0) throws IndexOutOfBounds", "bringHome(0..1, 0) 0");
        Runs.run("14: room: 0 to 11", "addWork(0|11)", "lend(0, 11, 1)", "lend(1, 0, 1)",
                "bringHome(0..1, LOW|-1|12|HIGH) throws IndexOutOfBounds", "bringHome(0, 0) 0", "bringHome(1, 11) 0",
                "title(0) A0@0", "title(1) D1@11");
        Runs.run("14: if it is not lent", "addWork(0)", "bringHome(0, 0..11) throws IllegalState", "lend(0, 3, 1)",
                "bringHome(0, 2) 0", "bringHome(0, 0..11) throws IllegalState");
        Runs.run("14: or the room is not in its own house", "addWork(4)", "lend(0, 2, 1)",
                "bringHome(0, 0..2|6..11) throws IllegalState", "title(0) B0@2$1", "bringHome(0, 3) 0", "lend(0, 6, 1)",
                "bringHome(0, 2|6) throws IllegalState", "bringHome(0, 5) 0", "title(0) B0@5");
        Runs.run("14: IndexOutOfBoundsException first: not lent, and no such room",
                "addWork(0)", "bringHome(0, LOW|-1|12|HIGH) throws IndexOutOfBounds",
                "bringHome(-1|1, -1|12|3) throws IndexOutOfBounds");
    }

    private static void loanFees() {
        Runs.run("14: what the loan has brought is not lost by a refused call",
                "addWork(9)", "lend(0, 0, 8)", "buy(0)", "enter(0, 0)", "bringHome(0, 0|3) throws IllegalState",
                "bringHome(0, 12) throws IndexOutOfBounds", "lend(0, 3, 1) throws IllegalState",
                "hang(0, 9) throws IllegalState", "bringHome(0, 9) 8");
        Runs.run("14: Returns what the loan has brought in fees: of all its days and rooms",
                "addWork(9)", "lend(0, 0, 8)", "3 x buy(0)", "visit(0..1, 0) true", "advance(2)", "buy(0)", "visit(3, 0)",
                "hang(0, 1)", "visit(3, 1)", "bringHome(0, 9) 32");
        Runs.run("14: what the loan has brought: nothing", "addWork(9)", "lend(0, 0, 0)", "buy(0)", "enter(0, 0)",
                "bringHome(0, 9) 0", "lend(0, 1, 1000)", "bringHome(0, 9) 0");
        Runs.run("14: what the loan has brought: not the one before, nor another work's",
                "2 x addWork(9)", "lend(0, 0, 8)", "lend(1, 1, 1)", "buy(0)", "visit(0, 0..1) true", "bringHome(0, 9) 8",
                "lend(0, 2, 3)", "visit(0, 2) true", "bringHome(0, 10) 3", "bringHome(1, 11) 1", "allMoney() 0 -12 0 0 12");
    }

    private static void shares() {
        Runs.run("15: no such work", "setShare(LOW|-1|0|HIGH, 20) throws IndexOutOfBounds", "2 x addWork(0)",
                "setShare(LOW|-1|2|HIGH, 20) throws IndexOutOfBounds", "setShare(0..1, 20) 20");
        Runs.run("15: percent: 0 to 100", "addWork(0)", "setShare(0, LOW|-1|101|HIGH) throws IllegalArgument",
                "setShare(0, 0) 20", "setShare(0, LOW|-1|101|HIGH) throws IllegalArgument", "setShare(0, 100) 0",
                "setShare(0, 99) 100");
        Runs.run("15: IndexOutOfBoundsException first", "addWork(0)", "setShare(LOW|-1|1|HIGH, -1|101) throws IndexOutOfBounds");
        Runs.run("15: Returns the share before: of that work, (20 at first), also when it has been lent",
                "2 x addWork(0)", "setShare(0, 1) 20", "setShare(1, 2) 20", "lend(0, 3, 1)", "setShare(0, 3) 1",
                "bringHome(0, 0)", "setShare(0..1, 5) 3|2");
    }

    private static void sales() {
        Runs.run("Terms: its share, in percent of it, rounded down (20 at first), the selling house the rest",
                "addWork(0)", "sell(1, 0, 1) 1", "sell(1, 0, 4) 4", "allMoney() 0 0 5 0 0", "sell(1, 0, 5) 4",
                "allMoney() 0 1 9 0 0", "sell(1, 0, 9) 8", "sell(1, 0, 10) 8", "allMoney() 0 4 25 0 0");
        Runs.run("Terms: its share: none, all, and nearly",
                "addWork(3)", "setShare(0, 0)", "sell(0, 0, 99) 99", "allMoney() 0 99 0 0 0", "setShare(0, 1)",
                "sell(0, 0, 99) 99", "sell(0, 0, 100) 99", "allMoney() 0 297 1 0 0", "setShare(0, 100)", "sell(0, 0, 1) 0",
                "allMoney() 0 297 2 0 0", "setShare(0, 99)", "sell(0, 0, 1) 1", "sell(0, 0, 100) 1", "allMoney() 0 299 101 0 0");
        Runs.run("Terms: all, if it is its own work",
                "addWork(0)", "sell(0, 0, 99) 99", "setShare(0, 100)", "sell(0, 0, 1) 1", "setShare(0, 0)", "sell(0, 0, 2) 2",
                "allMoney() 0 102 0 0 0");
        Runs.run("Terms: the house whose work it is: also while it is lent",
                "addWork(0)", "lend(0, 6, 1)", "sell(2, 0, 10) 8", "sell(0, 0, 10) 10", "sell(3, 0, 5) 4",
                "allMoney() 0 13 0 8 4");
        Runs.run("16: amount: 1 to 100000",
                "addWork(0)", "sell(0..1, 0, LOW|-1|0|100001|HIGH) throws IllegalArgument", "sell(0..1, 0, 1) 1",
                "sell(0, 0, 100000) 100000", "sell(1, 0, 100000) 80000", "setShare(0, 100)", "sell(3, 0, 100000) 0",
                "allMoney() 0 220001 80001 0 0", "takings() 300002");
    }

    private static void salesRefused() {
        Runs.run("16: house: 0 to 3", "addWork(0)", "sell(LOW|-1|4|HIGH, 0, 5) throws IndexOutOfBounds", "sell(0..3, 0, 5) 5|4|4|4",
                "allMoney() 0 8 4 4 4");
        Runs.run("16: no such work", "sell(0, LOW|-1|0|HIGH, 5) throws IndexOutOfBounds", "2 x addWork(0)",
                "sell(0, LOW|-1|2|HIGH, 5) throws IndexOutOfBounds", "sell(0, 0..1, 5) 5");
        Runs.run("16: IndexOutOfBoundsException first", "addWork(0)", "sell(LOW|-1|4|HIGH, 0, 0|100001) throws IndexOutOfBounds",
                "sell(0, LOW|-1|1|HIGH, 0|100001) throws IndexOutOfBounds");
    }

    private static void gifts() {
        Runs.run("17: house: 0 to 3", "give(LOW|-1|4|HIGH, 5, NONE) throws IndexOutOfBounds", "give(0..3, 5, NONE) 5",
                "allMoney() 0 5 5 5 5");
        Runs.run("17: amount: 1 to 100000",
                "join(0)", "give(0|3, LOW|-1|0|100001|HIGH, NONE|0|1) throws IllegalArgument", "give(0..3, 1, NONE|0|1) 1",
                "give(1, 100000, NONE) 100000", "give(2, 100000, 0) 125000", "give(3, 100000, 1) 100000",
                "allMoney() -25000 3 100003 125003 100003", "takings() 306012");
        Runs.run("17: member: 0 to 5, or NONE",
                "join(0..5)", "give(0, 4, LOW|-2|6|HIGH) throws IndexOutOfBounds", "give(0, 4, -1..5) 4|5|5|5|5|5|5",
                "allMoney() -6 34 0 0 0");
    }

    private static void giftsOfMembers() {
        Runs.run("Terms: the gift and a fourth of it, rounded down, which the group pays",
                "join(2)", "give(1, 3, 2) 3", "allMoney() 0 0 3 0 0", "give(1, 4, 2) 5", "allMoney() -1 0 8 0 0", "give(1, 7, 2) 8",
                "allMoney() -2 0 16 0 0", "give(1, 8, 2) 10", "allMoney() -4 0 26 0 0", "takings() 6022", "held() 6000");
        Runs.run("Terms: by a member whose membership is not over",
                "give(1, 4, 2) 4", "join(2) 29", "give(1, 4, 2) 5", "advance(29)", "give(1, 4, 2) 5", "advance(1)",
                "give(1, 4, 2) 4", "join(2)", "give(1, 4, 2) 5");
        Runs.run("Terms: of another gift the house gets the gift", "join(2)", "give(0, 4, NONE|1|3) 4",
                "allMoney() 0 12 0 0 0", "takings() 6012");
    }

    private static void giftsRefused() {
        Runs.run("17: IndexOutOfBoundsException first", "join(0)",
                "give(LOW|-1|4|HIGH, 0|100001, NONE|0|1) throws IndexOutOfBounds",
                "give(0, LOW|0|100001|HIGH, LOW|-2|6|HIGH) throws IndexOutOfBounds",
                "give(-1|4, 5, -2|6) throws IndexOutOfBounds");
    }

    private static void views() {
        Runs.run("25: no such work", "views(LOW|-1|0|HIGH) throws IndexOutOfBounds", "2 x addWork(0)",
                "views(LOW|-1|2|HIGH) throws IndexOutOfBounds", "views(0..1) 0");
        Runs.run("25: how often a ticket has seen a room for the first time while the work hung there",
                "addWork(0|0|1)", "3 x buy(0)", "setCap(0, 1)", "enter(0, 0) true", "enter(1, 0) false", "views(0..2) 1|1|0",
                "goOut(0)", "views(0..2) 2|2|0", "enter(0, 0) false", "goOut(1)", "views(0..2) 2|2|0", "goOut(0)",
                "hang(0, 1) 0", "enter(2, 0) true", "views(0..2) 2|3|0", "enter(0, 1) true", "views(0..2) 3|3|1",
                "advance(1)", "views(0..2) 3|3|1", "buy(0)", "enter(3, 1) true", "views(0..2) 4|3|2");
        Runs.run("25: while the work hung there: lent, at home, and lent again",
                "addWork(0)", "buy(NONE)", "visit(0, 0)", "views(0) 1", "lend(0, 3, 0)", "views(0) 1", "visit(0, 3)", "views(0) 2",
                "hang(0, 4)", "visit(0, 3)", "views(0) 2", "visit(0, 4)", "views(0) 3", "bringHome(0, 0)", "visit(0, 0)",
                "views(0) 3", "lend(0, 11, 1)", "visit(0, 11)", "views(0) 4");
    }

    private static void titles() {
        Runs.run("26: no such work", "titleAt(LOW|-1|0|HIGH, 0) throws IndexOutOfBounds", "2 x addWork(0)",
                "titleAt(LOW|-1|2|HIGH, 0) throws IndexOutOfBounds", "titleAt(0..1, 1) 48|49");
        Runs.run("26: if place is below 0", "addWork(0)", "titleAt(0, LOW|-1) throws IndexOutOfBounds", "titleAt(0, 0) 65",
                "titleAt(-1|1, -1) throws IndexOutOfBounds");
        Runs.run("26: NONE behind the last one", "addWork(3)", "titleAt(0, 0..3) 66|48|64|51", "titleAt(0, 4|5|HIGH) NONE",
                "lend(0, 10, 1000)", "titleAt(0, 4..9) 48|36|49|48|48|48", "titleAt(0, 10|11|HIGH) NONE");
        Runs.run("Terms: the letter A to D of its house, its number", "addWork(0|3|6|9)", "title(0) A0@0", "title(1) B1@3",
                "title(2) C2@6", "title(3) D3@9", "8 x addWork(8)", "title(9) C9@8", "title(10) C10@8", "title(11) C11@8");
        Runs.run("Terms: the number of the room in which it hangs", "addWork(9)", "title(0) D0@9", "hang(0, 10)", "title(0) D0@10",
                "hang(0, 11)", "title(0) D0@11", "lend(0, 0, 0)", "title(0) D0@0$0", "hang(0, 2)", "title(0) D0@2$0");
        Runs.run("Terms: if it is lent, $ and the fee", "addWork(0)", "lend(0, 3, 0)", "title(0) A0@3$0", "bringHome(0, 2)",
                "title(0) A0@2", "lend(0, 4, 9)", "title(0) A0@4$9", "bringHome(0, 1)", "lend(0, 5, 10)", "title(0) A0@5$10",
                "bringHome(0, 0)", "lend(0, 9, 100)", "title(0) A0@9$100", "bringHome(0, 0)", "lend(0, 10, 999)",
                "title(0) A0@10$999", "bringHome(0, 0)", "lend(0, 11, 1000)", "title(0) A0@11$1000");
    }
}
