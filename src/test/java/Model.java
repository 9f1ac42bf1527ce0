import java.util.ArrayList;
import java.util.List;
import java.util.TreeMap;
import java.util.TreeSet;

/**
 * The document, told as plainly as it goes: nothing is kept that can be found from what happened.
 * Where every guest is told by one list for each room, in the order in which they came.
 */
final class Model {
    private static final int NONE = -1;

    private static final class Pass {
        int sort, house, member, day, cost;
        boolean isVoid;
        final TreeSet<Integer> rooms = new TreeSet<>();
    }

    private static final class Piece {
        int owner, room, share = 20, fee = NONE, loanFees, views;
    }

    private final List<Pass> passes = new ArrayList<>();
    private final List<Piece> pieces = new ArrayList<>();
    private final List<int[]> memberships = new ArrayList<>();
    private final List<List<Integer>> inRoom = new ArrayList<>();
    private final List<List<Integer>> inQueue = new ArrayList<>();
    private final TreeMap<Integer, Integer> prices = new TreeMap<>();
    private final TreeMap<Integer, Integer> caps = new TreeMap<>();
    private final TreeSet<Integer> closed = new TreeSet<>();
    /** house, amount: all that has been paid, or paid out, at once or when a day ended. */
    private final List<int[]> journal = new ArrayList<>();
    private int today;
    private int takings;

    Model() {
        for (int room = 0; room < 12; room++) {
            inRoom.add(new ArrayList<>());
            inQueue.add(new ArrayList<>());
        }
    }

    private static void bound(boolean holds) {
        if (!holds) {
            throw new IndexOutOfBoundsException();
        }
    }

    private static void argument(boolean holds) {
        if (!holds) {
            throw new IllegalArgumentException();
        }
    }

    private static void state(boolean holds) {
        if (!holds) {
            throw new IllegalStateException();
        }
    }

    private Pass pass(int ticket) {
        bound(ticket >= 0 && ticket < passes.size());
        return passes.get(ticket);
    }

    private Piece piece(int work) {
        bound(work >= 0 && work < pieces.size());
        return pieces.get(work);
    }

    private static void room(int room) {
        bound(room >= 0 && room <= 11);
    }

    private int price(int house) {
        return prices.getOrDefault(house, house == NONE ? 1500 : 600);
    }

    private boolean isMember(int member, int day) {
        for (int[] one : memberships) {
            if (one[0] == member && one[1] <= day && day <= one[1] + 29) {
                return true;
            }
        }
        return false;
    }

    private List<Pass> ofMember(int member, int sort, int day) {
        List<Pass> found = new ArrayList<>();
        for (Pass pass : passes) {
            if (pass.member == member && pass.sort == sort && pass.day == day && !pass.isVoid) {
                found.add(pass);
            }
        }
        return found;
    }

    int setPrice(int house, int price) {
        bound(house >= NONE && house <= 3);
        argument(price >= 0 && price <= 10000);
        int before = price(house);
        prices.put(house, price);
        return before;
    }

    private int add(int sort, int house, int member, int cost) {
        state(passes.size() < 80);
        Pass pass = new Pass();
        pass.sort = sort;
        pass.house = house;
        pass.member = member;
        pass.day = today;
        pass.cost = cost;
        passes.add(pass);
        takings += cost;
        return passes.size() - 1;
    }

    int buy(int house) {
        bound(house >= NONE && house <= 3);
        return add(house == NONE ? 1 : 0, house, NONE, price(house));
    }

    int admit(int member, boolean isGuest) {
        bound(member >= 0 && member <= 5);
        state(isMember(member, today));
        int own = ofMember(member, 2, today).size();
        if (isGuest) {
            state(own == 1 && ofMember(member, 3, today).size() < 2);
            return add(3, NONE, member, price(NONE) / 2);
        }
        state(own == 0);
        return add(2, NONE, member, 0);
    }

    int giveBack(int ticket) {
        Pass pass = pass(ticket);
        state(pass.day == today && !pass.isVoid && pass.rooms.isEmpty() && whereIs(ticket) == NONE);
        for (int room = 0; room < 12; room++) {
            state(closed.contains(room) || pass.house != NONE && pass.house != room / 3);
        }
        pass.isVoid = true;
        takings -= pass.cost;
        return pass.cost;
    }

    int join(int member) {
        bound(member >= 0 && member <= 5);
        state(!isMember(member, today));
        memberships.add(new int[] {member, today});
        takings += 6000;
        return today + 29;
    }

    int setCap(int room, int cap) {
        room(room);
        argument(cap >= 0 && cap <= 20);
        caps.put(room, cap);
        settle(room);
        return inside(room);
    }

    int close(int room, boolean isClosed) {
        room(room);
        if (!isClosed) {
            closed.remove(room);
            return 0;
        }
        closed.add(room);
        int out = inRoom.get(room).size() + inQueue.get(room).size();
        inRoom.get(room).clear();
        inQueue.get(room).clear();
        return out;
    }

    boolean enter(int ticket, int room) {
        Pass pass = pass(ticket);
        room(room);
        state(pass.day == today && !pass.isVoid && (pass.house == NONE || pass.house == room / 3));
        state(whereIs(ticket) == NONE && !closed.contains(room));
        inQueue.get(room).add(ticket);
        settle(room);
        return whereIs(ticket) == room;
    }

    private int firstOf(int room) {
        for (int ticket : inQueue.get(room)) {
            if (passes.get(ticket).sort == 2) {
                return ticket;
            }
        }
        return inQueue.get(room).get(0);
    }

    private void settle(int room) {
        while (!inQueue.get(room).isEmpty() && inside(room) < caps.getOrDefault(room, 3)) {
            Integer first = firstOf(room);
            inQueue.get(room).remove(first);
            inRoom.get(room).add(first);
            if (passes.get(first).rooms.add(room)) {
                sight(room);
            }
        }
    }

    private void sight(int room) {
        for (Piece piece : pieces) {
            if (piece.room == room) {
                piece.views++;
                if (piece.fee != NONE) {
                    piece.loanFees += piece.fee;
                    journal.add(new int[] {room / 3, -piece.fee});
                    journal.add(new int[] {piece.owner, piece.fee});
                }
            }
        }
    }

    int goOut(int ticket) {
        pass(ticket);
        int where = whereIs(ticket);
        state(where != NONE);
        int room = where >= 100 ? where - 100 : where;
        inRoom.get(room).remove((Integer) ticket);
        inQueue.get(room).remove((Integer) ticket);
        settle(room);
        return room;
    }

    int addWork(int room) {
        room(room);
        state(pieces.size() < 12);
        Piece piece = new Piece();
        piece.owner = room / 3;
        piece.room = room;
        pieces.add(piece);
        return pieces.size() - 1;
    }

    int hang(int work, int room) {
        Piece piece = piece(work);
        room(room);
        int before = piece.room;
        state(before / 3 == room / 3);
        piece.room = room;
        return before;
    }

    int lend(int work, int room, int fee) {
        Piece piece = piece(work);
        room(room);
        argument(fee >= 0 && fee <= 1000);
        state(piece.fee == NONE && room / 3 != piece.owner);
        piece.fee = fee;
        piece.loanFees = 0;
        piece.room = room;
        return room / 3;
    }

    int bringHome(int work, int room) {
        Piece piece = piece(work);
        room(room);
        state(piece.fee != NONE && room / 3 == piece.owner);
        piece.fee = NONE;
        piece.room = room;
        return piece.loanFees;
    }

    int setShare(int work, int percent) {
        Piece piece = piece(work);
        argument(percent >= 0 && percent <= 100);
        int before = piece.share;
        piece.share = percent;
        return before;
    }

    int sell(int house, int work, int amount) {
        bound(house >= 0 && house <= 3);
        Piece piece = piece(work);
        argument(amount >= 1 && amount <= 100000);
        int rest = piece.owner == house ? amount : amount - amount * piece.share / 100;
        journal.add(new int[] {house, rest});
        journal.add(new int[] {piece.owner, amount - rest});
        takings += amount;
        return rest;
    }

    int give(int house, int amount, int member) {
        bound(house >= 0 && house <= 3 && member >= NONE && member <= 5);
        argument(amount >= 1 && amount <= 100000);
        int tax = isMember(member, today) ? amount / 4 : 0;
        journal.add(new int[] {house, amount + tax});
        journal.add(new int[] {NONE, -tax});
        takings += amount;
        return amount + tax;
    }

    int advance(int days) {
        argument(days >= 1 && days <= 60);
        state(today + days <= 2000);
        for (int i = 0; i < days; i++) {
            for (int room = 0; room < 12; room++) {
                inRoom.get(room).clear();
                inQueue.get(room).clear();
            }
            for (Pass pass : passes) {
                if (pass.day == today && !pass.isVoid) {
                    share(pass.cost, pass.rooms);
                }
            }
            for (int member = 0; member < 6; member++) {
                if (isMember(member, today)) {
                    List<Pass> own = ofMember(member, 2, today);
                    share(200, own.isEmpty() ? new TreeSet<>() : own.get(0).rooms);
                }
            }
            today++;
        }
        return today;
    }

    private void share(int amount, TreeSet<Integer> rooms) {
        int left = amount;
        for (int room : rooms) {
            journal.add(new int[] {room / 3, amount / rooms.size()});
            left -= amount / rooms.size();
        }
        journal.add(new int[] {NONE, left});
    }

    int day() {
        return today;
    }

    int tickets() {
        return passes.size();
    }

    int whereIs(int ticket) {
        pass(ticket);
        for (int room = 0; room < 12; room++) {
            if (inRoom.get(room).contains(ticket)) {
                return room;
            }
            if (inQueue.get(room).contains(ticket)) {
                return 100 + room;
            }
        }
        return NONE;
    }

    int seen(int ticket) {
        int set = 0;
        for (int room : pass(ticket).rooms) {
            set += 1 << room;
        }
        return set;
    }

    int inside(int room) {
        room(room);
        return inRoom.get(room).size();
    }

    int queued(int room, int place) {
        room(room);
        bound(place >= 0);
        List<Integer> order = new ArrayList<>();
        for (int ticket : inQueue.get(room)) {
            if (passes.get(ticket).sort == 2) {
                order.add(ticket);
            }
        }
        for (int ticket : inQueue.get(room)) {
            if (passes.get(ticket).sort != 2) {
                order.add(ticket);
            }
        }
        return place < order.size() ? order.get(place) : NONE;
    }

    int views(int work) {
        return piece(work).views;
    }

    int titleAt(int work, int place) {
        Piece piece = piece(work);
        bound(place >= 0);
        String title = "ABCD".charAt(piece.owner) + "" + work + "@" + piece.room + (piece.fee == NONE ? "" : "$" + piece.fee);
        return place < title.length() ? title.charAt(place) : NONE;
    }

    int money(int house) {
        bound(house >= NONE && house <= 3);
        int sum = 0;
        for (int[] one : journal) {
            sum += one[0] == house ? one[1] : 0;
        }
        return sum;
    }

    int moneyBySeen(int house) {
        return money(house);
    }

    int held() {
        int sum = 0;
        for (Pass pass : passes) {
            sum += pass.day == today && !pass.isVoid ? pass.cost : 0;
        }
        for (int[] one : memberships) {
            sum += 200 * Math.max(0, one[1] + 30 - today);
        }
        return sum;
    }

    int takings() {
        return takings;
    }
}
