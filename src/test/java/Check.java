/** What the tests have in common: answers that are due, and calls that are due to throw. */
final class Check {
    interface Call {
        long answer();
    }

    private static int calls = 0;
    private static int wrong = 0;

    private Check() {
    }

    static void due(String call, long got, long want) {
        calls++;
        if (got != want) {
            fault(call + " answered " + got + ", due is " + want);
        }
    }

    static void due(String call, boolean got, boolean want) {
        due(call, got ? 1 : 0, want ? 1 : 0);
    }

    static void due(String what, String got, String want) {
        calls++;
        if (!got.equals(want)) {
            fault(what + " is\n    " + got + "\n  due is\n    " + want);
        }
    }

    /** The call is due to throw just this exception, by a throw of its own, and to change nothing. */
    static void refused(MuseumTill till, String call, Class<? extends RuntimeException> kind, Call made) {
        String before = state(till);
        calls++;
        try {
            fault(call + " answered " + made.answer() + ", due is " + kind.getSimpleName());
        } catch (RuntimeException e) {
            if (e.getClass() != kind) {
                fault(call + " threw " + e + ", due is " + kind.getSimpleName());
            } else if (!isThrownByTheTill(e)) {
                fault(call + " let the machine or the library throw");
            }
        }
        due("the state after " + call, state(till), before);
    }

    static boolean isThrownByTheTill(RuntimeException e) {
        return e.getStackTrace().length > 0 && e.getStackTrace()[0].getClassName().startsWith("MuseumTill");
    }

    static void outOfBounds(MuseumTill till, String call, Call made) {
        refused(till, call, IndexOutOfBoundsException.class, made);
    }

    static void badArgument(MuseumTill till, String call, Call made) {
        refused(till, call, IllegalArgumentException.class, made);
    }

    static void badState(MuseumTill till, String call, Call made) {
        refused(till, call, IllegalStateException.class, made);
    }

    static void fault(String text) {
        wrong++;
        System.out.println(text);
    }

    static boolean isFaultless() {
        return wrong == 0;
    }

    static void end() {
        System.out.println(calls + " answers, " + wrong + " of them wrong");
        if (wrong != 0) {
            System.exit(1);
        }
    }

    static String title(MuseumTill till, int work) {
        StringBuilder text = new StringBuilder();
        for (int place = 0; till.titleAt(work, place) != MuseumTill.NONE; place++) {
            text.append((char) till.titleAt(work, place));
        }
        return text.toString();
    }

    static int works(MuseumTill till) {
        for (int work = 0; ; work++) {
            try {
                till.views(work);
            } catch (IndexOutOfBoundsException e) {
                return work;
            }
        }
    }

    /** All that can be asked. */
    static String state(MuseumTill till) {
        StringBuilder text = new StringBuilder("day " + till.day());
        for (int ticket = 0; ticket < till.tickets(); ticket++) {
            text.append(" t").append(ticket).append(':').append(till.whereIs(ticket)).append('/').append(till.seen(ticket));
        }
        for (int room = 0; room < 12; room++) {
            text.append(" r").append(room).append(':').append(till.inside(room));
            for (int place = 0; till.queued(room, place) != MuseumTill.NONE; place++) {
                text.append('<').append(till.queued(room, place));
            }
        }
        for (int work = 0; work < works(till); work++) {
            text.append(' ').append(title(till, work)).append('*').append(till.views(work));
        }
        for (int house = MuseumTill.NONE; house < 4; house++) {
            text.append(" h").append(house).append(':').append(till.money(house)).append('=').append(till.moneyBySeen(house));
        }
        return text.append(" held ").append(till.held()).append(" takings ").append(till.takings()).toString();
    }

    /** The money of the group and of the houses 0 to 3, kept and found again. */
    static void dueMoney(String when, MuseumTill till, int group, int... houses) {
        due("money(NONE) " + when, till.money(MuseumTill.NONE), group);
        due("moneyBySeen(NONE) " + when, till.moneyBySeen(MuseumTill.NONE), group);
        int all = group;
        for (int house = 0; house < 4; house++) {
            due("money(" + house + ") " + when, till.money(house), houses[house]);
            due("moneyBySeen(" + house + ") " + when, till.moneyBySeen(house), houses[house]);
            all += houses[house];
        }
        due("takings() less held() " + when, till.takings() - till.held(), all);
    }

    static void closeAll(MuseumTill till, int first, int last) {
        for (int room = first; room <= last; room++) {
            till.close(room, true);
        }
    }
}
