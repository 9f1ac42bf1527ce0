import java.util.ArrayList;

/**
 * The tills of a group of museums: tickets, members with guests, rooms with queues, works that are
 * lent, shops, gifts, and the money of each day, which goes to the houses by who was seen where.
 */
public final class MuseumTill {
    public static final int NONE = -1;
    public static final int SINGLE = 0, DAY = 1, MEMBER = 2, GUEST = 3;

    private static final int HOUSES = 4;
    private static final int ROOMS_OF_A_HOUSE = 3;
    private static final int ROOMS = HOUSES * ROOMS_OF_A_HOUSE;
    private static final int MEMBERS = 6;
    private static final int MOST_TICKETS = 80;
    private static final int MOST_WORKS = 12;
    private static final int MOST_GUESTS = 2;
    private static final int MOST_DAYS_AT_ONCE = 60;
    private static final int LAST_DAY = 2000;

    private static final int FIRST_SINGLE_PRICE = 600;
    private static final int FIRST_DAY_PRICE = 1500;
    private static final int HIGHEST_PRICE = 10000;
    private static final int FIRST_CAP = 3;
    private static final int HIGHEST_CAP = 20;
    private static final int HIGHEST_FEE = 1000;
    private static final int FIRST_SHARE = 20;
    private static final int HIGHEST_AMOUNT = 100000;

    private static final int MEMBERSHIP_DAYS = 30;
    private static final int MEMBERSHIP_DAY_PRICE = 200;
    private static final int MEMBERSHIP_PRICE = MEMBERSHIP_DAYS * MEMBERSHIP_DAY_PRICE;

    private static final int QUEUE_SIGN = 100;

    /** The till of a house, or of the group, which sells the DAY tickets. */
    private static final class Till {
        int ticketPrice;
        int kept;
        // What came and went at once, told apart from kept so that moneyBySeen needs nothing of it.
        int fees;
        int sales;
        int gifts;

        Till(int ticketPrice) {
            this.ticketPrice = ticketPrice;
        }

        void bookFee(int amount) {
            fees += amount;
            kept += amount;
        }

        void bookSale(int amount) {
            sales += amount;
            kept += amount;
        }

        void bookGift(int amount) {
            gifts += amount;
            kept += amount;
        }
    }

    /** A ticket; house and member are NONE where it has none. */
    private static final class Ticket {
        final int number;
        final int sort;
        final int house;
        final int member;
        final int cost;
        boolean isVoid;
        int seenRooms;
        int room = NONE;
        boolean isWaiting;

        Ticket(int number, int sort, int house, int member, int cost) {
            this.number = number;
            this.sort = sort;
            this.house = house;
            this.member = member;
            this.cost = cost;
        }

        boolean isFor(int someHouse) {
            return house == NONE || house == someHouse;
        }

        boolean isOfMember(int someMember, int someSort) {
            return !isVoid && sort == someSort && member == someMember;
        }

        void leaveRoom() {
            room = NONE;
            isWaiting = false;
        }
    }

    /** A room with its queue, the first one of the queue at 0. */
    private static final class Room {
        final int number;
        final int house;
        int cap = FIRST_CAP;
        boolean isClosed;
        int visitors;
        final ArrayList<Ticket> queue = new ArrayList<>();

        Room(int number) {
            this.number = number;
            this.house = number / ROOMS_OF_A_HOUSE;
        }

        void queueUp(Ticket ticket) {
            ticket.room = number;
            ticket.isWaiting = true;
            if (ticket.sort == MEMBER) {
                queue.add(waitingMembers(), ticket);
            } else {
                queue.add(ticket);
            }
        }

        private int waitingMembers() {
            int count = 0;
            while (count < queue.size() && queue.get(count).sort == MEMBER) {
                count++;
            }
            return count;
        }

        void leaveQueue(Ticket ticket) {
            for (int place = 0; place < queue.size(); place++) {
                if (queue.get(place) == ticket) {
                    queue.remove(place);
                    return;
                }
            }
        }
    }

    /** A work of a house; fee and loanFees tell of the loan, if it is lent. */
    private static final class Work {
        final int number;
        final int house;
        int room;
        boolean isLent;
        int fee;
        int loanFees;
        int share = FIRST_SHARE;
        int timesSeen;

        Work(int number, Room room) {
            this.number = number;
            this.house = room.house;
            this.room = room.number;
        }
    }

    /** A member; lastDay is the one of the newest membership. */
    private static final class Member {
        int memberships;
        int lastDay = NONE;

        boolean belongs(int day) {
            return lastDay >= day;
        }

        int daysLeft(int day) {
            return belongs(day) ? lastDay - day + 1 : 0;
        }

        int daysEnded(int day) {
            return memberships * MEMBERSHIP_DAYS - daysLeft(day);
        }
    }

    // The group's till is at 0, the one of the house h at h + 1.
    private final Till[] tills = new Till[HOUSES + 1];
    private final Room[] rooms = new Room[ROOMS];
    private final Member[] members = new Member[MEMBERS];
    private final ArrayList<Ticket> allTickets = new ArrayList<>();
    private final ArrayList<Work> works = new ArrayList<>();
    private int today;
    // Tickets are numbered by time, so those of today are the ones from this number on.
    private int firstOfToday;
    private int paidIn;

    public MuseumTill() {
        for (int i = 0; i < tills.length; i++) {
            tills[i] = new Till(i == 0 ? FIRST_DAY_PRICE : FIRST_SINGLE_PRICE);
        }
        for (int i = 0; i < rooms.length; i++) {
            rooms[i] = new Room(i);
        }
        for (int i = 0; i < members.length; i++) {
            members[i] = new Member();
        }
    }

    // ---- prices, tickets, members

    public int setPrice(int house, int price) throws IndexOutOfBoundsException, IllegalArgumentException {
        Till till = tillAt(house);
        checkRange(price, 0, HIGHEST_PRICE);
        int before = till.ticketPrice;
        till.ticketPrice = price;
        return before;
    }

    public int buy(int house) throws IndexOutOfBoundsException, IllegalStateException {
        Till till = tillAt(house);
        checkTicketsLeft();
        return issue(house == NONE ? DAY : SINGLE, house, NONE, till.ticketPrice);
    }

    public int admit(int member, boolean isGuest) throws IndexOutOfBoundsException, IllegalStateException {
        if (!memberAt(member).belongs(today)) {
            throw new IllegalStateException("no membership");
        }
        boolean isHere = countOfToday(member, MEMBER) > 0;
        if (isHere != isGuest) {
            throw new IllegalStateException("a MEMBER ticket of today, or none");
        }
        if (isGuest && countOfToday(member, GUEST) >= MOST_GUESTS) {
            throw new IllegalStateException("no more guests today");
        }
        checkTicketsLeft();
        int cost = isGuest ? tillAt(NONE).ticketPrice / 2 : 0;
        return issue(isGuest ? GUEST : MEMBER, NONE, member, cost);
    }

    public int giveBack(int ticket) throws IndexOutOfBoundsException, IllegalStateException {
        Ticket given = ticketAt(ticket);
        checkUsable(given);
        if (given.seenRooms != 0 || given.isWaiting || !areClosedFor(given)) {
            throw new IllegalStateException("cannot be given back");
        }
        given.isVoid = true;
        paidIn -= given.cost;
        return given.cost;
    }

    public int join(int member) throws IndexOutOfBoundsException, IllegalStateException {
        Member joining = memberAt(member);
        if (joining.belongs(today)) {
            throw new IllegalStateException("the membership is not over");
        }
        joining.memberships++;
        joining.lastDay = today + MEMBERSHIP_DAYS - 1;
        paidIn += MEMBERSHIP_PRICE;
        return joining.lastDay;
    }

    // ---- rooms

    public int setCap(int room, int cap) throws IndexOutOfBoundsException, IllegalArgumentException {
        Room changed = roomAt(room);
        checkRange(cap, 0, HIGHEST_CAP);
        changed.cap = cap;
        letQueueIn(changed);
        return changed.visitors;
    }

    public int close(int room, boolean isClosed) throws IndexOutOfBoundsException {
        Room changed = roomAt(room);
        changed.isClosed = isClosed;
        return isClosed ? sendAllOut(changed) : 0;
    }

    public boolean enter(int ticket, int room) throws IndexOutOfBoundsException, IllegalStateException {
        Ticket coming = ticketAt(ticket);
        Room entered = roomAt(room);
        checkUsable(coming);
        if (!coming.isFor(entered.house) || coming.room != NONE || entered.isClosed) {
            throw new IllegalStateException("may not enter");
        }
        entered.queueUp(coming);
        letQueueIn(entered);
        return !coming.isWaiting;
    }

    public int goOut(int ticket) throws IndexOutOfBoundsException, IllegalStateException {
        Ticket going = ticketAt(ticket);
        if (going.room == NONE) {
            throw new IllegalStateException("in no room and in no queue");
        }
        Room left = roomAt(going.room);
        if (going.isWaiting) {
            left.leaveQueue(going);
        } else {
            left.visitors--;
        }
        going.leaveRoom();
        letQueueIn(left);
        return left.number;
    }

    // ---- works, sales, gifts

    public int addWork(int room) throws IndexOutOfBoundsException, IllegalStateException {
        Room hung = roomAt(room);
        if (works.size() >= MOST_WORKS) {
            throw new IllegalStateException("no more works");
        }
        Work work = new Work(works.size(), hung);
        works.add(work);
        return work.number;
    }

    public int hang(int work, int room) throws IndexOutOfBoundsException, IllegalStateException {
        Work hung = workAt(work);
        Room to = roomAt(room);
        int before = hung.room;
        if (to.house != roomAt(before).house) {
            throw new IllegalStateException("another house");
        }
        hung.room = to.number;
        return before;
    }

    public int lend(int work, int room, int fee)
            throws IndexOutOfBoundsException, IllegalArgumentException, IllegalStateException {
        Work lent = workAt(work);
        Room to = roomAt(room);
        checkRange(fee, 0, HIGHEST_FEE);
        if (lent.isLent || to.house == lent.house) {
            throw new IllegalStateException("lent, or its own house");
        }
        lent.isLent = true;
        lent.fee = fee;
        lent.loanFees = 0;
        lent.room = to.number;
        return to.house;
    }

    public int bringHome(int work, int room) throws IndexOutOfBoundsException, IllegalStateException {
        Work brought = workAt(work);
        Room to = roomAt(room);
        if (!brought.isLent || to.house != brought.house) {
            throw new IllegalStateException("not lent, or not its own house");
        }
        brought.isLent = false;
        brought.room = to.number;
        return brought.loanFees;
    }

    public int setShare(int work, int percent) throws IndexOutOfBoundsException, IllegalArgumentException {
        Work changed = workAt(work);
        checkRange(percent, 0, 100);
        int before = changed.share;
        changed.share = percent;
        return before;
    }

    public int sell(int house, int work, int amount) throws IndexOutOfBoundsException, IllegalArgumentException {
        checkRealHouse(house);
        Work about = workAt(work);
        checkRange(amount, 1, HIGHEST_AMOUNT);
        int ownersPart = about.house == house ? 0 : amount * about.share / 100;
        tillAt(about.house).bookSale(ownersPart);
        tillAt(house).bookSale(amount - ownersPart);
        paidIn += amount;
        return amount - ownersPart;
    }

    public int give(int house, int amount, int member) throws IndexOutOfBoundsException, IllegalArgumentException {
        checkRealHouse(house);
        boolean isMembersGift = member != NONE && memberAt(member).belongs(today);
        checkRange(amount, 1, HIGHEST_AMOUNT);
        int taxBack = isMembersGift ? amount / 4 : 0;
        tillAt(NONE).bookGift(-taxBack);
        tillAt(house).bookGift(amount + taxBack);
        paidIn += amount;
        return amount + taxBack;
    }

    // ---- days

    public int advance(int days) throws IllegalArgumentException, IllegalStateException {
        checkRange(days, 1, MOST_DAYS_AT_ONCE);
        if (today + days > LAST_DAY) {
            throw new IllegalStateException("beyond the last day");
        }
        for (int i = 0; i < days; i++) {
            endDay();
        }
        return today;
    }

    // ---- what there is

    public int day() {
        return today;
    }

    public int tickets() {
        return allTickets.size();
    }

    public int whereIs(int ticket) throws IndexOutOfBoundsException {
        Ticket asked = ticketAt(ticket);
        return asked.isWaiting ? QUEUE_SIGN + asked.room : asked.room;
    }

    public int seen(int ticket) throws IndexOutOfBoundsException {
        return ticketAt(ticket).seenRooms;
    }

    public int inside(int room) throws IndexOutOfBoundsException {
        return roomAt(room).visitors;
    }

    public int queued(int room, int place) throws IndexOutOfBoundsException {
        ArrayList<Ticket> queue = roomAt(room).queue;
        checkPlace(place);
        return place < queue.size() ? queue.get(place).number : NONE;
    }

    public int views(int work) throws IndexOutOfBoundsException {
        return workAt(work).timesSeen;
    }

    public int titleAt(int work, int place) throws IndexOutOfBoundsException {
        Work titled = workAt(work);
        checkPlace(place);
        StringBuilder title = new StringBuilder();
        title.append((char) ('A' + titled.house)).append(titled.number).append('@').append(titled.room);
        if (titled.isLent) {
            title.append('$').append(titled.fee);
        }
        return place < title.length() ? title.charAt(place) : NONE;
    }

    public int money(int house) throws IndexOutOfBoundsException {
        return tillAt(house).kept;
    }

    public int moneyBySeen(int house) throws IndexOutOfBoundsException {
        Till till = tillAt(house);
        return till.fees + till.sales + till.gifts + broughtByTickets(house) + broughtByMemberships(house);
    }

    public int held() {
        int sum = 0;
        for (int i = firstOfToday; i < allTickets.size(); i++) {
            Ticket ticket = allTickets.get(i);
            sum += ticket.isVoid ? 0 : ticket.cost;
        }
        for (int i = 0; i < members.length; i++) {
            sum += members[i].daysLeft(today) * MEMBERSHIP_DAY_PRICE;
        }
        return sum;
    }

    public int takings() {
        return paidIn;
    }

    // ---- what arguments name

    private Till tillAt(int house) {
        if (house < NONE || house >= HOUSES) {
            throw new IndexOutOfBoundsException("no such house");
        }
        return tills[house + 1];
    }

    private static void checkRealHouse(int house) {
        if (house < 0 || house >= HOUSES) {
            throw new IndexOutOfBoundsException("no such house");
        }
    }

    private Room roomAt(int room) {
        if (room < 0 || room >= rooms.length) {
            throw new IndexOutOfBoundsException("no such room");
        }
        return rooms[room];
    }

    private Member memberAt(int member) {
        if (member < 0 || member >= members.length) {
            throw new IndexOutOfBoundsException("no such member");
        }
        return members[member];
    }

    private Ticket ticketAt(int ticket) {
        if (ticket < 0 || ticket >= allTickets.size()) {
            throw new IndexOutOfBoundsException("no such ticket");
        }
        return allTickets.get(ticket);
    }

    private Work workAt(int work) {
        if (work < 0 || work >= works.size()) {
            throw new IndexOutOfBoundsException("no such work");
        }
        return works.get(work);
    }

    private static void checkPlace(int place) {
        if (place < 0) {
            throw new IndexOutOfBoundsException("no such place");
        }
    }

    private static void checkRange(int value, int lowest, int highest) {
        if (value < lowest || value > highest) {
            throw new IllegalArgumentException("out of range");
        }
    }

    // ---- tickets

    private void checkTicketsLeft() {
        if (allTickets.size() >= MOST_TICKETS) {
            throw new IllegalStateException("no more tickets");
        }
    }

    private void checkUsable(Ticket ticket) {
        if (ticket.number < firstOfToday || ticket.isVoid) {
            throw new IllegalStateException("not of today, or void");
        }
    }

    private int issue(int sort, int house, int member, int cost) {
        Ticket ticket = new Ticket(allTickets.size(), sort, house, member, cost);
        allTickets.add(ticket);
        paidIn += cost;
        return ticket.number;
    }

    private int countOfToday(int member, int sort) {
        int count = 0;
        for (int i = firstOfToday; i < allTickets.size(); i++) {
            if (allTickets.get(i).isOfMember(member, sort)) {
                count++;
            }
        }
        return count;
    }

    private boolean areClosedFor(Ticket ticket) {
        for (int i = 0; i < rooms.length; i++) {
            if (ticket.isFor(rooms[i].house) && !rooms[i].isClosed) {
                return false;
            }
        }
        return true;
    }

    // ---- who is in a room

    private void letQueueIn(Room room) {
        for (int free = room.cap - room.visitors; free > 0 && !room.queue.isEmpty(); free--) {
            Ticket first = room.queue.remove(0);
            first.isWaiting = false;
            room.visitors++;
            showRoom(first, room);
        }
    }

    private void showRoom(Ticket ticket, Room room) {
        int sign = 1 << room.number;
        if ((ticket.seenRooms & sign) != 0) {
            return;
        }
        ticket.seenRooms |= sign;
        for (int i = 0; i < works.size(); i++) {
            Work work = works.get(i);
            if (work.room == room.number) {
                work.timesSeen++;
                payFee(work, room);
            }
        }
    }

    private void payFee(Work work, Room room) {
        if (work.isLent) {
            work.loanFees += work.fee;
            tillAt(room.house).bookFee(-work.fee);
            tillAt(work.house).bookFee(work.fee);
        }
    }

    private int sendAllOut(Room room) {
        int count = room.visitors + room.queue.size();
        for (int i = firstOfToday; i < allTickets.size(); i++) {
            Ticket ticket = allTickets.get(i);
            if (ticket.room == room.number) {
                ticket.leaveRoom();
            }
        }
        room.visitors = 0;
        room.queue.clear();
        return count;
    }

    // ---- how a day ends

    private void endDay() {
        for (int i = 0; i < rooms.length; i++) {
            sendAllOut(rooms[i]);
        }
        for (int i = firstOfToday; i < allTickets.size(); i++) {
            Ticket ticket = allTickets.get(i);
            if (!ticket.isVoid) {
                shareOut(ticket.cost, ticket.seenRooms);
            }
        }
        for (int i = 0; i < members.length; i++) {
            if (members[i].belongs(today)) {
                shareOut(MEMBERSHIP_DAY_PRICE, seenToday(i));
            }
        }
        firstOfToday = allTickets.size();
        today++;
    }

    private int seenToday(int member) {
        for (int i = firstOfToday; i < allTickets.size(); i++) {
            if (allTickets.get(i).isOfMember(member, MEMBER)) {
                return allTickets.get(i).seenRooms;
            }
        }
        return 0;
    }

    private void shareOut(int amount, int seenRooms) {
        for (int house = NONE; house < HOUSES; house++) {
            tillAt(house).kept += partOf(amount, seenRooms, house);
        }
    }

    /** What a house, or with NONE the group, gets of an amount that these rooms share. */
    private static int partOf(int amount, int seenRooms, int house) {
        int count = Integer.bitCount(seenRooms);
        int each = count == 0 ? 0 : amount / count;
        if (house == NONE) {
            return amount - each * count;
        }
        int roomsOfHouse = ((1 << ROOMS_OF_A_HOUSE) - 1) << (house * ROOMS_OF_A_HOUSE);
        return each * Integer.bitCount(seenRooms & roomsOfHouse);
    }

    // ---- the money found again

    private int broughtByTickets(int house) {
        int sum = 0;
        for (int i = 0; i < firstOfToday && i < allTickets.size(); i++) {
            Ticket ticket = allTickets.get(i);
            if (!ticket.isVoid) {
                sum += partOf(ticket.cost, ticket.seenRooms, house);
            }
        }
        return sum;
    }

    /** Each ended day of a membership has one MEMBER ticket that is not void, or none. */
    private int broughtByMemberships(int house) {
        int daysWithoutTicket = 0;
        for (int i = 0; i < members.length; i++) {
            daysWithoutTicket += members[i].daysEnded(today);
        }
        int sum = 0;
        for (int i = 0; i < firstOfToday && i < allTickets.size(); i++) {
            Ticket ticket = allTickets.get(i);
            if (ticket.sort == MEMBER && !ticket.isVoid) {
                daysWithoutTicket--;
                sum += partOf(MEMBERSHIP_DAY_PRICE, ticket.seenRooms, house);
            }
        }
        return sum + partOf(daysWithoutTicket * MEMBERSHIP_DAY_PRICE, 0, house);
    }
}
