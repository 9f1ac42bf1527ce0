/** What can be found out about an object, as a text: two objects in the same state give the same. */
final class Probe {
    private static final String REFUSED = "throws";

    private final Counted till;
    private final StringBuilder found = new StringBuilder();

    private Probe(Counted till) {
        this.till = till;
    }

    /** By asking alone. */
    static String look(Counted till) {
        Probe probe = new Probe(till);
        probe.money();
        for (int room = 0; room < 12; room++) {
            probe.ask("inside", room);
            probe.askPlaces("queued", room);
        }
        for (int ticket = 0; ticket < probe.tickets(); ticket++) {
            probe.ask("whereIs", ticket);
            probe.ask("seen", ticket);
        }
        for (int work = 0; !probe.ask("views", work).startsWith(REFUSED); work++) {
            probe.askPlaces("titleAt", work);
        }
        return probe.found.toString();
    }

    /** By changing it: prices, caps, closed rooms, memberships, shares, loans, and what days bring. */
    static String use(Counted till) {
        Probe probe = new Probe(till);
        probe.works();
        probe.pricesAndMembers();
        probe.rooms();
        probe.ask("advance", 1);
        probe.money();
        probe.ask("advance", 60);
        probe.money();
        return probe.found.toString();
    }

    private String ask(String name, Object... arguments) {
        String answer = till.answer(name, arguments);
        found.append(' ').append(Step.asking(name, arguments)).append(' ').append(answer);
        return answer;
    }

    private int tickets() {
        return Integer.parseInt(till.answer("tickets"));
    }

    private void askPlaces(String name, int of) {
        int place = 0;
        while (!ask(name, of, place).equals("-1")) {
            place++;
        }
    }

    private void money() {
        ask("day");
        ask("tickets");
        ask("held");
        ask("takings");
        for (int house = -1; house <= 3; house++) {
            ask("money", house);
            ask("moneyBySeen", house);
        }
    }

    private void works() {
        int work = 0;
        for (; !ask("views", work).startsWith(REFUSED); work++) {
            ask("setShare", work, 50);
            for (int house = 0; house <= 3; house++) {
                ask("bringHome", work, 3 * house);
            }
        }
        ask("addWork", 0);
    }

    private void pricesAndMembers() {
        int newest = tickets() - 1;
        for (int ticket = newest; ticket >= 0 && ticket > newest - 6; ticket--) {
            ask("giveBack", ticket);
            ask("goOut", ticket);
        }
        for (int house = -1; house <= 3; house++) {
            ask("setPrice", house, 1000 + house);
            ask("buy", house);
        }
        for (int member = 0; member <= 5; member++) {
            ask("give", 0, 4, member);
            ask("join", member);
            ask("admit", member, false);
            ask("admit", member, true);
            ask("admit", member, true);
        }
    }

    /** Four tickets that come to each room tell its cap, if that is 3 or less. */
    private void rooms() {
        int newest = tickets() - 1;
        for (int room = 0; room < 12; room++) {
            for (int ticket = newest; ticket >= 0 && ticket > newest - 4; ticket--) {
                ask("enter", ticket, room);
            }
            ask("setCap", room, 4);
            ask("close", room, true);
        }
    }
}
