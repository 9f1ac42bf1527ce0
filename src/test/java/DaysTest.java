/** Promises 18 to 20 and 27 to 30: how days end, and the money. */
public final class DaysTest {
    private static final int NONE = MuseumTill.NONE;
    private static final int LOW = Integer.MIN_VALUE, HIGH = Integer.MAX_VALUE;

    public static void main(String[] args) {
        promise18Advance();
        promise18AllGoOut();
        promise19Day();
        promise20Tickets();
        promise27Money();
        promise27MoneyOfMembers();
        promise28MoneyBySeen();
        promise29Held();
        promise30Takings();
        Check.end();
    }

    private static void see(MuseumTill till, int ticket, int... rooms) {
        for (int room : rooms) {
            till.enter(ticket, room);
            till.goOut(ticket);
        }
    }

    private static void promise18Advance() {
        MuseumTill till = new MuseumTill();
        for (int days : new int[] {LOW, -1, 0, 61, HIGH}) {
            Check.badArgument(till, "advance(" + days + ")", () -> till.advance(days));
        }
        Check.due("advance(1)", till.advance(1), 1);
        Check.due("advance(59)", till.advance(59), 60);
        for (int day = 120; day <= 1980; day += 60) {
            Check.due("advance(60)", till.advance(60), day);
        }
        Check.badState(till, "advance(21)", () -> till.advance(21));
        Check.badState(till, "advance(60)", () -> till.advance(60));
        Check.badArgument(till, "advance(61) on the day 1980", () -> till.advance(61));
        Check.due("advance(19)", till.advance(19), 1999);
        Check.badState(till, "advance(2)", () -> till.advance(2));
        Check.due("advance(1) to the last day", till.advance(1), 2000);
        Check.badState(till, "advance(1) beyond", () -> till.advance(1));
        Check.badArgument(till, "advance(0) on the last day", () -> till.advance(0));
        Check.due("join(0) on the last day", till.join(0), 2029);
        Check.due("buy(0) on the last day", till.buy(0), 0);
        Check.due("enter(0, 0) on the last day", till.enter(0, 0), true);
    }

    private static void promise18AllGoOut() {
        MuseumTill till = new MuseumTill();
        till.addWork(0);
        till.lend(0, 3, 100);
        till.setCap(3, 1);
        till.buy(1);
        till.buy(1);
        till.buy(1);
        for (int ticket = 0; ticket < 3; ticket++) {
            till.enter(ticket, 3);
        }
        till.advance(1);
        Check.due("seen(1) that waited", till.seen(1), 0);
        Check.due("inside(3)", till.inside(3), 0);
        Check.due("queued(3, 0)", till.queued(3, 0), NONE);
        Check.due("views(0)", till.views(0), 1);
        Check.dueMoney("after who waited", till, 1200, 100, 500, 0, 0);
        till.buy(1);
        Check.due("enter(3, 3) on the next day", till.enter(3, 3), true);
    }

    private static void promise19Day() {
        MuseumTill till = new MuseumTill();
        Check.due("day()", till.day(), 0);
        till.advance(3);
        Check.due("day() after 3", till.day(), 3);
        till.advance(60);
        Check.due("day() after 63", till.day(), 63);
    }

    private static void promise20Tickets() {
        MuseumTill till = new MuseumTill();
        Check.due("tickets()", till.tickets(), 0);
        till.buy(0);
        till.buy(NONE);
        till.join(0);
        Check.due("tickets() after two", till.tickets(), 2);
        till.admit(0, false);
        till.admit(0, true);
        Check.due("tickets() after four", till.tickets(), 4);
        Check.closeAll(till, 0, 11);
        till.giveBack(0);
        Check.due("tickets() with a void one", till.tickets(), 4);
        till.advance(40);
        Check.due("tickets() on a later day", till.tickets(), 4);
    }

    private static void promise27Money() {
        MuseumTill till = new MuseumTill();
        for (int house : new int[] {LOW, -2, 4, HIGH}) {
            Check.outOfBounds(till, "money(" + house + ")", () -> till.money(house));
        }
        Check.dueMoney("at first", till, 0, 0, 0, 0, 0);
        till.buy(0);
        see(till, 0, 0, 1, 2);
        till.buy(NONE);
        till.buy(3);
        till.setPrice(NONE, 1000);
        till.buy(NONE);
        see(till, 3, 2, 0, 3, 7, 7, 8, 11, 2, 6);
        Check.dueMoney("before the day ends", till, 0, 0, 0, 0, 0);
        till.advance(1);
        Check.dueMoney("after the day", till, 1500 + 600 + 6, 600 + 284, 142, 426, 142);
        till.advance(1);
        Check.dueMoney("once alone", till, 1500 + 600 + 6, 600 + 284, 142, 426, 142);
        till.setPrice(2, 2);
        till.buy(2);
        see(till, 4, 6, 7, 8);
        till.advance(1);
        Check.dueMoney("less than a cent each", till, 1500 + 600 + 6 + 2, 600 + 284, 142, 426, 142);
    }

    private static void promise27MoneyOfMembers() {
        MuseumTill till = new MuseumTill();
        till.join(1);
        till.advance(1);
        Check.dueMoney("a day without a ticket", till, 200, 0, 0, 0, 0);
        till.admit(1, false);
        till.advance(1);
        Check.dueMoney("a ticket that has seen none", till, 400, 0, 0, 0, 0);
        till.admit(1, false);
        till.admit(1, true);
        see(till, 1, 0, 3, 6);
        see(till, 2, 11);
        till.advance(1);
        Check.dueMoney("three rooms of the member, one of the guest", till, 402, 66, 66, 66, 750);
        Check.closeAll(till, 0, 11);
        till.admit(1, false);
        till.giveBack(3);
        till.admit(1, false);
        till.close(5, false);
        see(till, 4, 5);
        till.advance(1);
        Check.dueMoney("a void ticket and another", till, 402, 66, 266, 66, 750);
        till.advance(26);
        Check.dueMoney("after the last day", till, 402 + 26 * 200, 66, 266, 66, 750);
        till.advance(1);
        Check.dueMoney("when it is over", till, 402 + 26 * 200, 66, 266, 66, 750);
        till.join(1);
        till.advance(60);
        Check.dueMoney("after a second one", till, 402 + 26 * 200 + 6000, 66, 266, 66, 750);
    }

    private static void promise28MoneyBySeen() {
        MuseumTill till = new MuseumTill();
        for (int house : new int[] {LOW, -2, 4, HIGH}) {
            Check.outOfBounds(till, "moneyBySeen(" + house + ")", () -> till.moneyBySeen(house));
        }
        till.addWork(0);
        till.lend(0, 9, 11);
        till.join(0);
        till.join(3);
        till.admit(0, false);
        till.buy(NONE);
        till.setPrice(3, 50);
        till.buy(3);
        see(till, 0, 9, 4);
        see(till, 1, 9, 10, 1, 2);
        till.sell(1, 0, 10);
        till.give(2, 40, 3);
        Check.due("moneyBySeen(NONE) on the day", till.moneyBySeen(NONE), -10);
        Check.due("moneyBySeen(0) on the day", till.moneyBySeen(0), 24);
        Check.due("moneyBySeen(1) on the day", till.moneyBySeen(1), 8);
        Check.due("moneyBySeen(2) on the day", till.moneyBySeen(2), 50);
        Check.due("moneyBySeen(3) on the day", till.moneyBySeen(3), -22);
        till.advance(1);
        Check.dueMoney("on the next day", till, -10 + 200 + 50, 24 + 750, 8 + 100, 50, -22 + 100 + 750);
        till.advance(35);
        Check.dueMoney("later", till, -10 + 200 + 50 + 58 * 200, 24 + 750, 8 + 100, 50, -22 + 100 + 750);
    }

    private static void promise29Held() {
        MuseumTill till = new MuseumTill();
        Check.due("held() at first", till.held(), 0);
        till.buy(0);
        till.buy(NONE);
        till.join(4);
        Check.due("held()", till.held(), 600 + 1500 + 6000);
        till.close(0, true);
        till.close(1, true);
        till.close(2, true);
        till.giveBack(0);
        Check.due("held() without a void one", till.held(), 1500 + 6000);
        till.give(0, 100, NONE);
        Check.due("held() after a gift", till.held(), 1500 + 6000);
        till.advance(1);
        Check.due("held() on the day 1", till.held(), 29 * 200);
        till.join(5);
        till.advance(28);
        Check.due("held() on the last day", till.held(), 200 + 2 * 200);
        till.advance(1);
        Check.due("held() when one is over", till.held(), 200);
        till.advance(1);
        Check.due("held() when both are over", till.held(), 0);
        till.advance(1);
        Check.due("held() long after", till.held(), 0);
    }

    private static void promise30Takings() {
        MuseumTill till = new MuseumTill();
        Check.due("takings() at first", till.takings(), 0);
        till.addWork(0);
        till.lend(0, 3, 500);
        till.buy(1);
        till.join(0);
        till.admit(0, false);
        till.admit(0, true);
        Check.due("takings() of tickets", till.takings(), 600 + 6000 + 750);
        till.enter(0, 3);
        Check.due("takings() with a fee", till.takings(), 600 + 6000 + 750);
        till.sell(2, 0, 33);
        till.give(2, 44, 0);
        Check.due("takings() of sales and gifts", till.takings(), 600 + 6000 + 750 + 33 + 44);
        Check.closeAll(till, 0, 11);
        till.giveBack(2);
        Check.due("takings() less what was paid back", till.takings(), 600 + 6000 + 33 + 44);
        till.advance(60);
        Check.due("takings() on a later day", till.takings(), 600 + 6000 + 33 + 44);
    }
}
