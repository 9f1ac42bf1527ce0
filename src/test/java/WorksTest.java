/** Promises 11 to 17, 25 and 26: works, loans, sales, gifts. */
public final class WorksTest {
    private static final int NONE = MuseumTill.NONE;
    private static final int LOW = Integer.MIN_VALUE, HIGH = Integer.MAX_VALUE;

    public static void main(String[] args) {
        promise11AddWork();
        promise12Hang();
        promise13Lend();
        promise13FeesOfSight();
        promise14BringHome();
        promise15SetShare();
        promise16Sell();
        promise17Give();
        promise25Views();
        promise26TitleAt();
        Check.end();
    }

    private static void promise11AddWork() {
        MuseumTill till = new MuseumTill();
        for (int room : new int[] {LOW, -1, 12, HIGH}) {
            Check.outOfBounds(till, "addWork(" + room + ")", () -> till.addWork(room));
        }
        for (int room = 0; room < 12; room++) {
            Check.due("addWork(" + room + ")", till.addWork(11 - room), room);
            Check.due("title", Check.title(till, room), "" + "DCBA".charAt(room / 3) + room + "@" + (11 - room));
        }
        Check.badState(till, "addWork(0) as the 13th", () -> till.addWork(0));
        Check.outOfBounds(till, "addWork(12) as the 13th", () -> till.addWork(12));
    }

    private static void promise12Hang() {
        MuseumTill till = new MuseumTill();
        till.addWork(4);
        for (int work : new int[] {LOW, -1, 1, HIGH}) {
            Check.outOfBounds(till, "hang(" + work + ", 4)", () -> till.hang(work, 4));
        }
        for (int room : new int[] {LOW, -1, 12, HIGH}) {
            Check.outOfBounds(till, "hang(0, " + room + ")", () -> till.hang(0, room));
        }
        Check.due("hang(0, 5)", till.hang(0, 5), 4);
        Check.due("hang(0, 5) where it hangs", till.hang(0, 5), 5);
        Check.due("hang(0, 3)", till.hang(0, 3), 5);
        Check.badState(till, "hang(0, 2)", () -> till.hang(0, 2));
        Check.badState(till, "hang(0, 6)", () -> till.hang(0, 6));
        till.lend(0, 6, 10);
        Check.badState(till, "hang(0, 3) at home when it is lent", () -> till.hang(0, 3));
        Check.badState(till, "hang(0, 9) with a third house", () -> till.hang(0, 9));
        Check.due("hang(0, 8)", till.hang(0, 8), 6);
        Check.due("title", Check.title(till, 0), "B0@8$10");
        till.buy(2);
        till.enter(0, 6);
        Check.dueMoney("after the room before", till, 0, 0, 0, 0, 0);
        till.goOut(0);
        till.enter(0, 8);
        Check.dueMoney("after the room behind", till, 0, 0, 10, -10, 0);
    }

    private static void promise13Lend() {
        MuseumTill till = new MuseumTill();
        till.addWork(0);
        for (int work : new int[] {LOW, -1, 1, HIGH}) {
            Check.outOfBounds(till, "lend(" + work + ", 3, -1)", () -> till.lend(work, 3, -1));
        }
        for (int room : new int[] {LOW, -1, 12, HIGH}) {
            Check.outOfBounds(till, "lend(0, " + room + ", -1)", () -> till.lend(0, room, -1));
        }
        for (int fee : new int[] {LOW, -1, 1001, HIGH}) {
            Check.badArgument(till, "lend(0, 3, " + fee + ")", () -> till.lend(0, 3, fee));
            Check.badArgument(till, "lend(0, 1, " + fee + ")", () -> till.lend(0, 1, fee));
        }
        for (int room = 0; room < 3; room++) {
            int own = room;
            Check.badState(till, "lend(0, " + room + ", 5)", () -> till.lend(0, own, 5));
        }
        Check.due("lend(0, 3, 0)", till.lend(0, 3, 0), 1);
        Check.due("title", Check.title(till, 0), "A0@3$0");
        Check.badState(till, "lend(0, 6, 5) when it is lent", () -> till.lend(0, 6, 5));
        Check.badState(till, "lend(0, 0, 5) when it is lent", () -> till.lend(0, 0, 5));
        Check.badArgument(till, "lend(0, 6, 1001) when it is lent", () -> till.lend(0, 6, 1001));
        till.bringHome(0, 1);
        Check.due("lend(0, 11, 1000)", till.lend(0, 11, 1000), 3);
        till.advance(60);
        Check.due("title on a later day", Check.title(till, 0), "A0@11$1000");
    }

    private static void promise13FeesOfSight() {
        MuseumTill till = new MuseumTill();
        till.addWork(0);
        till.addWork(3);
        till.addWork(6);
        till.buy(2);
        till.buy(NONE);
        till.enter(0, 6);
        till.lend(0, 6, 70);
        Check.dueMoney("who is there has seen the room", till, 0, 0, 0, 0, 0);
        till.lend(1, 6, 5);
        till.enter(1, 6);
        Check.dueMoney("after one sight of two loans", till, 0, 70, 5, -75, 0);
        till.goOut(1);
        till.enter(1, 6);
        Check.dueMoney("after the same sight", till, 0, 70, 5, -75, 0);
        till.setCap(6, 2);
        till.buy(2);
        till.enter(2, 6);
        Check.dueMoney("from the queue", till, 0, 70, 5, -75, 0);
        till.goOut(0);
        Check.dueMoney("after its turn", till, 0, 140, 10, -150, 0);
        till.goOut(1);
        till.enter(1, 7);
        till.goOut(1);
        till.hang(0, 7);
        till.enter(1, 7);
        Check.dueMoney("seen before the work came", till, 0, 140, 10, -150, 0);
        till.advance(1);
        till.buy(2);
        till.enter(3, 7);
        Check.due("money(0) by a ticket of the next day", till.money(0), 210);
        till.bringHome(0, 2);
        till.buy(0);
        till.enter(4, 2);
        Check.due("money(0) by a sight at home", till.money(0), 210);
    }

    private static void promise14BringHome() {
        MuseumTill till = new MuseumTill();
        till.addWork(9);
        for (int work : new int[] {LOW, -1, 1, HIGH}) {
            Check.outOfBounds(till, "bringHome(" + work + ", 9)", () -> till.bringHome(work, 9));
        }
        Check.badState(till, "bringHome(0, 9) when not lent", () -> till.bringHome(0, 9));
        till.lend(0, 0, 8);
        for (int room : new int[] {LOW, -1, 12, HIGH}) {
            Check.outOfBounds(till, "bringHome(0, " + room + ")", () -> till.bringHome(0, room));
        }
        Check.badState(till, "bringHome(0, 8)", () -> till.bringHome(0, 8));
        Check.badState(till, "bringHome(0, 0)", () -> till.bringHome(0, 0));
        till.buy(0);
        till.buy(0);
        till.enter(0, 0);
        till.enter(1, 0);
        till.advance(2);
        till.buy(0);
        till.enter(2, 0);
        Check.due("bringHome(0, 11)", till.bringHome(0, 11), 24);
        Check.due("title", Check.title(till, 0), "D0@11");
        Check.badState(till, "bringHome(0, 11) again", () -> till.bringHome(0, 11));
        till.lend(0, 1, 3);
        Check.due("bringHome(0, 9) of a loan not seen", till.bringHome(0, 9), 0);
        till.lend(0, 1, 3);
        till.goOut(2);
        till.enter(2, 1);
        Check.due("bringHome(0, 10) of the newest loan", till.bringHome(0, 10), 3);
    }

    private static void promise15SetShare() {
        MuseumTill till = new MuseumTill();
        till.addWork(0);
        till.addWork(0);
        for (int work : new int[] {LOW, -1, 2, HIGH}) {
            Check.outOfBounds(till, "setShare(" + work + ", 1)", () -> till.setShare(work, 1));
            Check.outOfBounds(till, "setShare(" + work + ", -1)", () -> till.setShare(work, -1));
        }
        for (int percent : new int[] {LOW, -1, 101, HIGH}) {
            Check.badArgument(till, "setShare(0, " + percent + ")", () -> till.setShare(0, percent));
        }
        Check.due("setShare(0, 100)", till.setShare(0, 100), 20);
        Check.due("setShare(0, 0)", till.setShare(0, 0), 100);
        Check.due("setShare(0, 50)", till.setShare(0, 50), 0);
        Check.due("setShare(1, 1)", till.setShare(1, 1), 20);
        till.lend(0, 3, 1);
        till.bringHome(0, 0);
        Check.due("setShare(0, 2) after a loan", till.setShare(0, 2), 50);
    }

    private static void promise16Sell() {
        MuseumTill till = new MuseumTill();
        till.addWork(0);
        for (int house : new int[] {LOW, -1, 4, HIGH}) {
            Check.outOfBounds(till, "sell(" + house + ", 0, 1)", () -> till.sell(house, 0, 1));
            Check.outOfBounds(till, "sell(" + house + ", 0, 0)", () -> till.sell(house, 0, 0));
        }
        for (int work : new int[] {LOW, -1, 1, HIGH}) {
            Check.outOfBounds(till, "sell(0, " + work + ", 0)", () -> till.sell(0, work, 0));
        }
        for (int amount : new int[] {LOW, -1, 0, 100001, HIGH}) {
            Check.badArgument(till, "sell(0, 0, " + amount + ")", () -> till.sell(0, 0, amount));
        }
        Check.due("sell(0, 0, 99) of its own", till.sell(0, 0, 99), 99);
        Check.due("sell(1, 0, 99)", till.sell(1, 0, 99), 80);
        Check.dueMoney("after two sales", till, 0, 118, 80, 0, 0);
        till.lend(0, 6, 1);
        Check.due("sell(2, 0, 4) by the borrower", till.sell(2, 0, 4), 4);
        Check.due("sell(2, 0, 5) by the borrower", till.sell(2, 0, 5), 4);
        Check.due("sell(0, 0, 10) when it is lent", till.sell(0, 0, 10), 10);
        Check.dueMoney("after a loan", till, 0, 129, 80, 8, 0);
        till.setShare(0, 100);
        Check.due("sell(3, 0, 100000)", till.sell(3, 0, 100000), 0);
        till.setShare(0, 0);
        Check.due("sell(3, 0, 1)", till.sell(3, 0, 1), 1);
        Check.due("takings()", till.takings(), 99 + 99 + 4 + 5 + 10 + 100000 + 1);
        Check.due("held()", till.held(), 0);
    }

    private static void promise17Give() {
        MuseumTill till = new MuseumTill();
        for (int house : new int[] {LOW, -1, 4, HIGH}) {
            Check.outOfBounds(till, "give(" + house + ", 1, 0)", () -> till.give(house, 1, 0));
            Check.outOfBounds(till, "give(" + house + ", 0, 0)", () -> till.give(house, 0, 0));
        }
        for (int member : new int[] {LOW, -2, 6, HIGH}) {
            Check.outOfBounds(till, "give(0, 1, " + member + ")", () -> till.give(0, 1, member));
            Check.outOfBounds(till, "give(0, 0, " + member + ")", () -> till.give(0, 0, member));
        }
        for (int amount : new int[] {LOW, -1, 0, 100001, HIGH}) {
            Check.badArgument(till, "give(0, " + amount + ", NONE)", () -> till.give(0, amount, NONE));
            Check.badArgument(till, "give(0, " + amount + ", 0)", () -> till.give(0, amount, 0));
        }
        Check.due("give(0, 7, NONE)", till.give(0, 7, NONE), 7);
        Check.due("give(1, 8, 2) without a membership", till.give(1, 8, 2), 8);
        Check.dueMoney("after gifts without tax", till, 0, 7, 8, 0, 0);
        till.join(2);
        Check.due("give(2, 3, 2)", till.give(2, 3, 2), 3);
        Check.due("give(2, 7, 2)", till.give(2, 7, 2), 8);
        Check.due("give(3, 100000, 2)", till.give(3, 100000, 2), 125000);
        Check.due("give(3, 4, NONE)", till.give(3, 4, NONE), 4);
        Check.due("give(3, 4, 1)", till.give(3, 4, 1), 4);
        Check.dueMoney("after gifts with tax", till, -25001, 7, 8, 11, 125008);
        Check.due("takings() without the tax", till.takings(), 6000 + 7 + 8 + 3 + 7 + 100000 + 8);
        till.advance(29);
        Check.due("give(0, 4, 2) on the last day", till.give(0, 4, 2), 5);
        till.advance(1);
        Check.due("give(0, 4, 2) when it is over", till.give(0, 4, 2), 4);
    }

    private static void promise25Views() {
        MuseumTill till = new MuseumTill();
        till.addWork(0);
        till.addWork(0);
        for (int work : new int[] {LOW, -1, 2, HIGH}) {
            Check.outOfBounds(till, "views(" + work + ")", () -> till.views(work));
        }
        Check.due("views(0) at first", till.views(0), 0);
        till.setCap(0, 1);
        till.buy(0);
        till.buy(0);
        till.enter(0, 0);
        till.enter(1, 0);
        Check.due("views(0) at home", till.views(0), 1);
        till.goOut(0);
        Check.due("views(0) after a turn", till.views(0), 2);
        Check.due("views(1) too", till.views(1), 2);
        till.enter(0, 0);
        till.goOut(1);
        Check.due("views(0) after the same one", till.views(0), 2);
        till.hang(0, 1);
        till.goOut(0);
        till.enter(0, 1);
        Check.due("views(0) in another room", till.views(0), 3);
        Check.due("views(1) in the same room", till.views(1), 2);
        till.lend(0, 3, 9);
        till.buy(1);
        till.enter(2, 3);
        Check.due("views(0) of the loan", till.views(0), 4);
        till.advance(1);
        Check.due("views(0) on the next day", till.views(0), 4);
        till.bringHome(0, 0);
        till.buy(0);
        till.enter(3, 0);
        Check.due("views(0) of the next day", till.views(0), 5);
        Check.due("views(1) of the next day", till.views(1), 3);
    }

    private static void promise26TitleAt() {
        MuseumTill till = new MuseumTill();
        till.addWork(3);
        for (int work : new int[] {LOW, -1, 1, HIGH}) {
            Check.outOfBounds(till, "titleAt(" + work + ", 0)", () -> till.titleAt(work, 0));
        }
        Check.outOfBounds(till, "titleAt(0, -1)", () -> till.titleAt(0, -1));
        Check.outOfBounds(till, "titleAt(0, low)", () -> till.titleAt(0, LOW));
        Check.due("title", Check.title(till, 0), "B0@3");
        Check.due("titleAt(0, 4)", till.titleAt(0, 4), NONE);
        Check.due("titleAt(0, high)", till.titleAt(0, HIGH), NONE);
        till.hang(0, 5);
        Check.due("title when hung", Check.title(till, 0), "B0@5");
        till.lend(0, 10, 1000);
        Check.due("title when lent", Check.title(till, 0), "B0@10$1000");
        till.bringHome(0, 4);
        Check.due("title at home", Check.title(till, 0), "B0@4");
        till.lend(0, 0, 0);
        Check.due("title without a fee", Check.title(till, 0), "B0@0$0");
        for (int work = 1; work < 12; work++) {
            till.addWork(11);
        }
        till.lend(11, 8, 70);
        Check.due("title of the last one", Check.title(till, 11), "D11@8$70");
        Check.due("title of another", Check.title(till, 10), "D10@11");
    }
}
