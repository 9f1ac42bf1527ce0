/** Promises 1 to 6: a new object, prices, tickets, members. */
public final class TicketsTest {
    private static final int NONE = MuseumTill.NONE;
    private static final int LOW = Integer.MIN_VALUE, HIGH = Integer.MAX_VALUE;

    public static void main(String[] args) {
        promise1NewObject();
        promise2SetPrice();
        promise3Buy();
        promise4Admit();
        promise4AdmitAfterGivingBack();
        promise5GiveBack();
        promise5GiveBackOfAllSorts();
        promise6Join();
        Check.end();
    }

    private static void promise1NewObject() {
        MuseumTill till = new MuseumTill();
        StringBuilder rooms = new StringBuilder();
        for (int room = 0; room < 12; room++) {
            rooms.append(" r").append(room).append(":0");
        }
        Check.due("a new object", Check.state(till),
                "day 0" + rooms + " h-1:0=0 h0:0=0 h1:0=0 h2:0=0 h3:0=0 held 0 takings 0");
        Check.badState(till, "admit without a membership", () -> till.admit(0, false));
        MuseumTill other = new MuseumTill();
        other.buy(0);
        other.addWork(0);
        other.join(0);
        Check.due("tickets() of the untouched one", till.tickets(), 0);
        Check.due("works of the untouched one", Check.works(till), 0);
        Check.due("join(0) of the untouched one", till.join(0), 29);
    }

    private static void promise2SetPrice() {
        MuseumTill till = new MuseumTill();
        Check.due("setPrice(NONE, 10000)", till.setPrice(NONE, 10000), 1500);
        Check.due("setPrice(NONE, 0)", till.setPrice(NONE, 0), 10000);
        for (int house = 0; house < 4; house++) {
            Check.due("setPrice(house, 7)", till.setPrice(house, 7 + house), 600);
        }
        for (int house = 0; house < 4; house++) {
            Check.due("setPrice(house, 0)", till.setPrice(house, 0), 7 + house);
        }
        for (int house : new int[] {LOW, -2, 4, HIGH}) {
            Check.outOfBounds(till, "setPrice(" + house + ", 1)", () -> till.setPrice(house, 1));
            Check.outOfBounds(till, "setPrice(" + house + ", -1)", () -> till.setPrice(house, -1));
        }
        for (int price : new int[] {LOW, -1, 10001, HIGH}) {
            Check.badArgument(till, "setPrice(0, " + price + ")", () -> till.setPrice(0, price));
            Check.badArgument(till, "setPrice(NONE, " + price + ")", () -> till.setPrice(NONE, price));
        }
        Check.due("setPrice(0, 5) after refusals", till.setPrice(0, 5), 0);
        Check.due("setPrice(NONE, 5) after refusals", till.setPrice(NONE, 5), 0);
        till.buy(0);
        till.setPrice(0, 900);
        Check.due("held() at the price of the sale", till.held(), 5);
        till.advance(1);
        Check.due("setPrice(0, 1) on the next day", till.setPrice(0, 1), 900);
    }

    private static void promise3Buy() {
        MuseumTill till = new MuseumTill();
        Check.due("buy(0)", till.buy(0), 0);
        Check.due("held() after buy(0)", till.held(), 600);
        Check.due("buy(NONE)", till.buy(NONE), 1);
        Check.due("held() after buy(NONE)", till.held(), 2100);
        Check.due("buy(3)", till.buy(3), 2);
        Check.due("takings()", till.takings(), 2700);
        for (int room = 0; room < 12; room++) {
            int asked = room;
            if (room < 9) {
                Check.badState(till, "SINGLE of house 3 into " + room, () -> till.enter(2, asked) ? 1 : 0);
            } else {
                Check.due("SINGLE of house 3 into " + room, till.enter(2, room), true);
                till.goOut(2);
            }
            Check.due("DAY into " + room, till.enter(1, room), true);
            till.goOut(1);
        }
        for (int house : new int[] {LOW, -2, 4, HIGH}) {
            Check.outOfBounds(till, "buy(" + house + ")", () -> till.buy(house));
        }
        till.advance(1);
        for (int number = 3; number < 80; number++) {
            Check.due("buy", till.buy(number % 5 - 1), number);
        }
        Check.due("tickets()", till.tickets(), 80);
        Check.badState(till, "buy(0) as the 81st", () -> till.buy(0));
        Check.badState(till, "buy(NONE) as the 81st", () -> till.buy(NONE));
        Check.outOfBounds(till, "buy(4) as the 81st", () -> till.buy(4));
        till.advance(1);
        Check.badState(till, "buy(0) as the 81st, a day later", () -> till.buy(0));
    }

    private static void promise4Admit() {
        MuseumTill till = new MuseumTill();
        for (int member : new int[] {LOW, -1, 6, HIGH}) {
            Check.outOfBounds(till, "admit(" + member + ", false)", () -> till.admit(member, false));
            Check.outOfBounds(till, "admit(" + member + ", true)", () -> till.admit(member, true));
        }
        Check.badState(till, "admit(5, false) without a membership", () -> till.admit(5, false));
        till.join(5);
        Check.badState(till, "admit(5, true) without a MEMBER ticket", () -> till.admit(5, true));
        Check.due("admit(5, false)", till.admit(5, false), 0);
        Check.due("held() after a MEMBER ticket", till.held(), 6000);
        Check.badState(till, "admit(5, false) again", () -> till.admit(5, false));
        till.setPrice(NONE, 1501);
        Check.due("admit(5, true)", till.admit(5, true), 1);
        Check.due("held() after a guest", till.held(), 6750);
        till.setPrice(NONE, 1);
        Check.due("admit(5, true) second", till.admit(5, true), 2);
        Check.due("held() after a guest for nothing", till.held(), 6750);
        Check.badState(till, "admit(5, true) third", () -> till.admit(5, true));
        till.join(0);
        Check.badState(till, "admit(0, true) by the ticket of another", () -> till.admit(0, true));
        Check.due("admit(0, false)", till.admit(0, false), 3);
        Check.due("admit(0, true)", till.admit(0, true), 4);
        for (int room = 0; room < 12; room++) {
            for (int ticket : new int[] {0, 1}) {
                Check.due("enter(" + ticket + ", " + room + ")", till.enter(ticket, room), true);
                till.goOut(ticket);
            }
        }
        till.advance(1);
        Check.badState(till, "admit(5, true) on the next day", () -> till.admit(5, true));
        Check.due("admit(5, false) on the next day", till.admit(5, false), 5);
        Check.due("admit(5, true) on the next day", till.admit(5, true), 6);
        till.advance(28);
        Check.due("admit(5, false) on the last day", till.admit(5, false), 7);
        till.advance(1);
        Check.badState(till, "admit(5, false) when it is over", () -> till.admit(5, false));
        Check.badState(till, "admit(5, true) when it is over", () -> till.admit(5, true));
        till.join(5);
        Check.due("admit(5, false) with a new one", till.admit(5, false), 8);
        while (till.tickets() < 80) {
            till.buy(0);
        }
        till.join(1);
        Check.badState(till, "admit(1, false) as the 81st", () -> till.admit(1, false));
        Check.badState(till, "admit(5, true) as the 81st", () -> till.admit(5, true));
    }

    private static void promise4AdmitAfterGivingBack() {
        MuseumTill till = new MuseumTill();
        till.join(2);
        till.admit(2, false);
        till.admit(2, true);
        till.admit(2, true);
        Check.closeAll(till, 0, 11);
        Check.due("giveBack of a guest", till.giveBack(1), 750);
        Check.due("admit(2, true) in its stead", till.admit(2, true), 3);
        Check.badState(till, "admit(2, true) once more", () -> till.admit(2, true));
        Check.due("giveBack of the MEMBER ticket", till.giveBack(0), 0);
        till.giveBack(3);
        Check.badState(till, "admit(2, true) by a void ticket", () -> till.admit(2, true));
        Check.due("admit(2, false) in its stead", till.admit(2, false), 4);
        Check.due("admit(2, true) by the new one", till.admit(2, true), 5);
        Check.badState(till, "admit(2, true): the guest of the void one counts", () -> till.admit(2, true));
    }

    private static void promise5GiveBack() {
        MuseumTill till = new MuseumTill();
        for (int ticket : new int[] {LOW, -1, 0, HIGH}) {
            Check.outOfBounds(till, "giveBack(" + ticket + ")", () -> till.giveBack(ticket));
        }
        till.setPrice(1, 333);
        till.buy(1);
        till.buy(1);
        till.buy(1);
        Check.badState(till, "giveBack(0) with open rooms", () -> till.giveBack(0));
        till.enter(1, 4);
        Check.closeAll(till, 3, 4);
        Check.badState(till, "giveBack(0) with one open room", () -> till.giveBack(0));
        till.close(3, false);
        till.close(5, true);
        Check.badState(till, "giveBack(0) with another open room", () -> till.giveBack(0));
        till.close(3, true);
        till.setPrice(1, 5);
        Check.due("giveBack(0)", till.giveBack(0), 333);
        Check.due("held()", till.held(), 666);
        Check.due("takings()", till.takings(), 666);
        Check.badState(till, "giveBack(0) again", () -> till.giveBack(0));
        Check.badState(till, "giveBack(1) that has seen a room", () -> till.giveBack(1));
        Check.due("tickets() with a void one", till.tickets(), 3);
        till.close(4, false);
        Check.badState(till, "enter of a void one", () -> till.enter(0, 4) ? 1 : 0);
        till.close(4, true);
        till.advance(1);
        Check.badState(till, "giveBack(2) on the next day", () -> till.giveBack(2));
        Check.dueMoney("after a void one", till, 333, 0, 333, 0, 0);
    }

    private static void promise5GiveBackOfAllSorts() {
        MuseumTill till = new MuseumTill();
        till.join(0);
        till.buy(NONE);
        till.admit(0, false);
        till.admit(0, true);
        till.buy(2);
        till.setCap(0, 0);
        till.enter(0, 0);
        Check.badState(till, "giveBack(0) in a queue", () -> till.giveBack(0));
        for (int last = 10; last >= 8; last--) {
            Check.closeAll(till, 0, 11);
            till.close(last, false);
            for (int ticket = 0; ticket < 3; ticket++) {
                int given = ticket;
                Check.badState(till, "giveBack(" + ticket + ") with an open room", () -> till.giveBack(given));
            }
        }
        Check.badState(till, "giveBack(3) with an open room", () -> till.giveBack(3));
        till.close(8, true);
        Check.due("giveBack(0) that was in a queue", till.giveBack(0), 1500);
        Check.due("giveBack(1)", till.giveBack(1), 0);
        Check.badState(till, "giveBack(1) again", () -> till.giveBack(1));
        Check.due("giveBack(2)", till.giveBack(2), 750);
        Check.due("giveBack(3)", till.giveBack(3), 600);
        till.advance(1);
        Check.dueMoney("after void ones", till, 200, 0, 0, 0, 0);
    }

    private static void promise6Join() {
        MuseumTill till = new MuseumTill();
        for (int member : new int[] {LOW, -1, 6, HIGH}) {
            Check.outOfBounds(till, "join(" + member + ")", () -> till.join(member));
        }
        Check.due("join(0)", till.join(0), 29);
        Check.due("takings() after join", till.takings(), 6000);
        Check.due("held() after join", till.held(), 6000);
        Check.badState(till, "join(0) again", () -> till.join(0));
        till.advance(7);
        Check.due("join(5) on the day 7", till.join(5), 36);
        till.advance(22);
        Check.badState(till, "join(0) on its last day", () -> till.join(0));
        till.advance(1);
        Check.due("join(0) when it is over", till.join(0), 59);
        Check.badState(till, "join(5) that is not over", () -> till.join(5));
        Check.due("takings() after three", till.takings(), 18000);
        Check.dueMoney("after 30 days", till, 30 * 200 + 23 * 200, 0, 0, 0, 0);
    }
}
