import java.util.ArrayList;

/**
 * A host on a link forms its addresses by what routers tell, looks whether others have them before
 * it uses them, finds neighbours, keeps an eye on whether they can be reached, picks ways for
 * packets and learns how great these may be, and answers packets by the headers they bear, but not
 * too often.
 */
public final class LinkHost {
    private static final int NONE = 0;
    private static final int GROUP = 65535;
    private static final int LOCAL = 1;
    private static final int PREFIX_UNIT = 256;
    private static final int MOST_ID = 254;
    private static final int MOST_PREFIX = 250;
    private static final int MOST_NUMBER = 99;

    private static final int ENDLESS_LIFE = 1000;
    private static final int NEVER = 2147483647;
    /** A router can't cut the valid life of an address below this, lest one false word end it. */
    private static final int GUARDED_LIFE = 20;
    private static final int PATH_LIFE = 30;

    private static final int MOST_OWN = 5;
    private static final int MOST_ROUTERS = 3;
    private static final int MOST_PREFIXES = 4;
    private static final int MOST_NEIGHBOURS = 6;
    private static final int MOST_PATHS = 4;
    private static final int MOST_HEADERS = 6;
    private static final int MOST_OUT = 12;
    private static final int MOST_IN_BUCKET = 3;
    private static final int BUCKET_TICKS = 4;

    private static final int LEAST_SIZE = 8;
    private static final int MOST_SIZE = 40;

    private static final int TENTATIVE = 1;
    private static final int PREFERRED = 2;
    private static final int DEPRECATED = 3;
    private static final int DUPLICATE = 4;

    private static final int SOUGHT = 1;
    private static final int REACHABLE = 2;
    private static final int STALE = 3;
    private static final int DELAY = 4;
    private static final int PROBED = 5;

    private static final int REACHABLE_TICKS = 10;
    private static final int DELAY_TICKS = 5;
    private static final int ASKING_TICKS = 3;
    private static final int PROBING_TICKS = 2;

    private static final int OUT_PROBE = 1;
    private static final int OUT_ASK = 2;
    private static final int OUT_TOLD = 3;
    private static final int OUT_PACKET = 4;
    private static final int OUT_ECHO = 5;
    private static final int OUT_FAULT = 6;

    private static final int FLAG_ON_LINK = 1;
    private static final int FLAG_FORM = 2;
    private static final int FLAG_ROUTER = 1;
    private static final int FLAG_ASKED = 2;
    private static final int FLAG_OVERRIDE = 4;

    private static final int SENT = 0;
    private static final int WAITS = 1;
    private static final int TOO_GREAT = 2;
    private static final int NO_WAY = 3;
    private static final int NO_ADDRESS = 4;

    private static final int HOPS = 0;
    private static final int OPTIONS = 1;
    private static final int ROUTE = 2;
    private static final int PART = 3;
    private static final int NOTHING = 4;
    private static final int ECHO = 5;
    private static final int DATA = 6;
    private static final int MOST_KIND = 9;
    private static final int MOST_HEADER_NUMBER = 3;

    private static final int FAULT_ROUTE = 0;
    private static final int FAULT_KIND = 1;
    private static final int FAULT_OPTION = 2;

    private final int id;
    private final Out out = new Out();
    private final OwnRow owns = new OwnRow();
    private final NeighbourRow neighbours = new NeighbourRow();
    private final TimedRow routers = new TimedRow(MOST_ROUTERS);
    private final TimedRow prefixes = new TimedRow(MOST_PREFIXES);
    private final TimedRow paths = new TimedRow(MOST_PATHS);
    private final Headers headers = new Headers();
    private int time = 0;
    private int linkSize = MOST_SIZE;
    private int lost = 0;
    private int taken = 0;
    private int bucket = MOST_IN_BUCKET;
    private boolean down = false;

    public LinkHost(int id) {
        this.id = Math.max(1, Math.min(MOST_ID, id));
        form(LOCAL, NEVER, NEVER);
    }

    public void tick(int n) throws IllegalArgumentException {
        requireArguments(isWithin(n, 1, 100));
        for (int i = 0; i < n; i++) {
            time++;
            if (!down) {
                doWhatIsDue();
            }
        }
    }

    public void router(int id, int number, int life, int size)
            throws IllegalArgumentException, IllegalStateException {
        requireArguments(isWithin(id, 1, MOST_ID) && isNumber(number) && isLife(life)
                && isWithin(size, 0, 99));
        requireUp();
        int address = addressOf(LOCAL, id);
        learnNumber(address, number).isRouter = true;
        if (life == 0) {
            routers.drop(address);
        } else {
            routers.keep(address, endOf(life), 0);
        }
        if (isWithin(size, LEAST_SIZE, MOST_SIZE)) {
            linkSize = size;
        }
    }

    public void prefix(int prefix, int flags, int valid, int preferred)
            throws IllegalArgumentException, IllegalStateException {
        requireArguments(isWithin(prefix, 1, MOST_PREFIX) && isWithin(flags, 0, 3)
                && isLife(valid) && isLife(preferred));
        requireUp();
        if (prefix == LOCAL) {
            return;
        }
        if ((flags & FLAG_ON_LINK) != 0) {
            hearOnLink(prefix, valid);
        }
        if ((flags & FLAG_FORM) != 0 && preferred <= valid) {
            hearForm(prefix, valid, preferred);
        }
    }

    public void asked(int s, int t, int number)
            throws IllegalArgumentException, IllegalStateException {
        requireArguments((s == NONE || isAddress(s)) && isAddress(t) && isNumber(number));
        requireUp();
        OwnAddress target = owns.find(t);
        if (target == null) {
            return;
        }
        if (target.isUsable()) {
            if (s != NONE) {
                learnNumber(s, number);
            }
            out.add(OUT_TOLD, s == NONE ? GROUP : s, t);
        } else if (s == NONE && target.state == TENTATIVE) {
            markDuplicate(target);
        }
    }

    public void told(int t, int number, int flags)
            throws IllegalArgumentException, IllegalStateException {
        requireArguments(isAddress(t) && isNumber(number) && isWithin(flags, 0, 7));
        requireUp();
        OwnAddress target = owns.find(t);
        if (target != null && target.state == TENTATIVE) {
            markDuplicate(target);
            return;
        }
        Neighbour teller = neighbours.find(t);
        if (teller != null) {
            hearNumber(teller, number, flags);
        }
    }

    public int send(int to, int size) throws IllegalArgumentException, IllegalStateException {
        requireArguments(isAddress(to) && isWithin(size, 1, MOST_SIZE));
        requireUp();
        if (!owns.hasUsable(isLocal(to))) {
            return NO_ADDRESS;
        }
        if (size > sizeTo(to)) {
            return TOO_GREAT;
        }
        int hop = isOnLink(to) ? to : pickRouter();
        if (hop == NONE) {
            return NO_WAY;
        }
        return sendThrough(hop, size);
    }

    public void smaller(int to, int size) throws IllegalArgumentException, IllegalStateException {
        requireArguments(isAddress(to) && isWithin(size, 0, MOST_SIZE));
        requireUp();
        if (size >= LEAST_SIZE && sizeTo(to) > size) {
            paths.keep(to, time + PATH_LIFE, size);
        }
    }

    public int header(int kind, int number) throws IllegalArgumentException, IllegalStateException {
        requireArguments(isWithin(kind, 0, MOST_KIND) && isWithin(number, 0, MOST_HEADER_NUMBER));
        if (headers.isFull()) {
            throw new IllegalStateException("there are six headers");
        }
        headers.add(kind, number);
        return headers.held;
    }

    public int come(int from, int to) throws IllegalArgumentException, IllegalStateException {
        requireArguments((from == NONE || isAddress(from)) && (to == GROUP || isAddress(to)));
        requireUp();
        int looked = isForHost(to) ? lookAtHeaders(from, to == GROUP) : 0;
        headers.clear();
        return looked;
    }

    public int count(int which) throws IllegalArgumentException {
        requireArguments(isWithin(which, 0, 11));
        switch (which) {
            case 0:
                return time;
            case 1:
                return owns.length();
            case 2:
                return routers.length();
            case 3:
                return prefixes.length();
            case 4:
                return neighbours.length();
            case 5:
                return paths.length();
            case 6:
                return out.inAll;
            case 7:
                return lost;
            case 8:
                return taken;
            case 9:
                return bucket;
            case 10:
                return linkSize;
            default:
                return down ? 1 : 0;
        }
    }

    public int own(int i) throws IndexOutOfBoundsException {
        requireIndex(i, owns.length());
        OwnAddress found = owns.at(i);
        return found.address + 65536 * found.state;
    }

    public int until(int i) throws IndexOutOfBoundsException {
        requireIndex(i, owns.length());
        int end = owns.at(i).validEnd;
        return end == NEVER ? -1 : end;
    }

    public int neighbour(int address) {
        Neighbour found = neighbours.find(address);
        if (found == null) {
            return 0;
        }
        return found.state + 8 * found.number + (found.isRouter ? 1024 : 0)
                + (found.hasWaiting() ? 2048 : 0);
    }

    public int sizeTo(int address) {
        Timed path = paths.find(address);
        return path == null ? linkSize : Math.min(path.size, linkSize);
    }

    public int outKind(int i) throws IndexOutOfBoundsException {
        requireIndex(i, out.held);
        return out.kinds[out.slot(i)];
    }

    public int outTo(int i) throws IndexOutOfBoundsException {
        requireIndex(i, out.held);
        return out.tos[out.slot(i)];
    }

    public int outX(int i) throws IndexOutOfBoundsException {
        requireIndex(i, out.held);
        return out.xs[out.slot(i)];
    }

    private static void requireArguments(boolean fit) {
        if (!fit) {
            throw new IllegalArgumentException("an argument is out of its range");
        }
    }

    private static void requireIndex(int i, int length) {
        if (i < 0 || i >= length) {
            throw new IndexOutOfBoundsException("there is none with this index");
        }
    }

    private void requireUp() {
        if (down) {
            throw new IllegalStateException("the host is down");
        }
    }

    private static boolean isWithin(int value, int least, int most) {
        return value >= least && value <= most;
    }

    private static boolean isNumber(int number) {
        return isWithin(number, 1, MOST_NUMBER);
    }

    private static boolean isLife(int life) {
        return isWithin(life, 0, ENDLESS_LIFE);
    }

    private static boolean isAddress(int address) {
        return isWithin(prefixOf(address), 1, MOST_PREFIX)
                && isWithin(address % PREFIX_UNIT, 1, MOST_ID);
    }

    private static int addressOf(int prefix, int id) {
        return PREFIX_UNIT * prefix + id;
    }

    private static int prefixOf(int address) {
        return address / PREFIX_UNIT;
    }

    private static boolean isLocal(int address) {
        return prefixOf(address) == LOCAL;
    }

    private int endOf(int life) {
        return life == ENDLESS_LIFE ? NEVER : time + life;
    }

    private void doWhatIsDue() {
        owns.expire(time);
        for (int i = 0; i < owns.length(); i++) {
            ageOwn(owns.at(i));
        }
        for (int i = 0; i < neighbours.length(); i++) {
            ageNeighbour(neighbours.at(i));
        }
        lost += neighbours.giveUp(time);
        routers.expire(time);
        prefixes.expire(time);
        paths.expire(time);
        if (time % BUCKET_TICKS == 0 && bucket < MOST_IN_BUCKET) {
            bucket++;
        }
    }

    private void ageOwn(OwnAddress aged) {
        boolean preferredIsOver = time >= aged.preferredEnd;
        if (aged.state == PREFERRED && preferredIsOver) {
            aged.state = DEPRECATED;
        } else if (aged.state == TENTATIVE) {
            if (time - aged.formedAt < PROBING_TICKS) {
                probe(aged);
            } else {
                aged.state = preferredIsOver ? DEPRECATED : PREFERRED;
            }
        }
    }

    private void ageNeighbour(Neighbour aged) {
        int age = time - aged.since;
        if (aged.isAskedFor()) {
            if (age < ASKING_TICKS) {
                ask(aged);
            }
        } else if (aged.state == REACHABLE && age >= REACHABLE_TICKS) {
            aged.enter(STALE, time);
        } else if (aged.state == DELAY && age >= DELAY_TICKS) {
            aged.enter(PROBED, time);
            ask(aged);
        }
    }

    private void form(int prefix, int validEnd, int preferredEnd) {
        OwnAddress formed = new OwnAddress(addressOf(prefix, id), time);
        formed.validEnd = validEnd;
        formed.preferredEnd = preferredEnd;
        owns.add(formed);
        probe(formed);
    }

    private void probe(OwnAddress tentative) {
        out.add(OUT_PROBE, GROUP, tentative.address);
    }

    private void markDuplicate(OwnAddress tentative) {
        tentative.state = DUPLICATE;
        if (isLocal(tentative.address)) {
            down = true;
        }
    }

    private void hearOnLink(int prefix, int valid) {
        if (valid == 0) {
            prefixes.drop(prefix);
        } else {
            prefixes.keep(prefix, endOf(valid), 0);
        }
    }

    private void hearForm(int prefix, int valid, int preferred) {
        OwnAddress formed = owns.find(addressOf(prefix, id));
        if (formed == null) {
            if (valid != 0 && owns.length() < MOST_OWN) {
                form(prefix, endOf(valid), endOf(preferred));
            }
        } else if (formed.state != DUPLICATE) {
            renew(formed, valid, preferred);
        }
    }

    private void renew(OwnAddress formed, int valid, int preferred) {
        formed.preferredEnd = endOf(preferred);
        if (formed.state != TENTATIVE) {
            formed.state = preferred == 0 ? DEPRECATED : PREFERRED;
        }
        int left = formed.validEnd - time;
        if (valid > GUARDED_LIFE || valid > left) {
            formed.validEnd = endOf(valid);
        } else if (left > GUARDED_LIFE) {
            formed.validEnd = endOf(GUARDED_LIFE);
        }
    }

    /** The neighbour with that address, which has that link number from now on. */
    private Neighbour learnNumber(int address, int number) {
        Neighbour known = neighbours.find(address);
        if (known == null) {
            Neighbour made = new Neighbour(address, number, STALE, time);
            neighbours.add(made);
            return made;
        }
        if (known.state == SOUGHT || known.number != number) {
            known.number = number;
            known.enter(STALE, time);
            sendWaiting(known);
        }
        return known;
    }

    private void hearNumber(Neighbour teller, int number, int flags) {
        boolean isAsked = (flags & FLAG_ASKED) != 0;
        boolean isOther = teller.number != number;
        if (teller.state == SOUGHT) {
            teller.number = number;
            teller.enter(isAsked ? REACHABLE : STALE, time);
            sendWaiting(teller);
        } else if (isOther && (flags & FLAG_OVERRIDE) == 0) {
            if (teller.state == REACHABLE) {
                teller.enter(STALE, time);
            }
            return;
        } else {
            teller.number = number;
            if (isAsked) {
                teller.enter(REACHABLE, time);
            } else if (isOther) {
                teller.enter(STALE, time);
            }
        }
        hearWhetherRouter(teller, (flags & FLAG_ROUTER) != 0);
    }

    private void hearWhetherRouter(Neighbour teller, boolean isRouter) {
        if (teller.isRouter && !isRouter) {
            routers.drop(teller.address);
        }
        teller.isRouter = isRouter;
    }

    private boolean isOnLink(int address) {
        return isLocal(address) || prefixes.find(prefixOf(address)) != null;
    }

    /** The first router whose neighbour's link number is known, else the first one, else NONE. */
    private int pickRouter() {
        for (int i = 0; i < routers.length(); i++) {
            Neighbour hop = neighbours.find(routers.at(i).key);
            if (hop != null && hop.state != SOUGHT) {
                return hop.address;
            }
        }
        return routers.length() == 0 ? NONE : routers.at(0).key;
    }

    private int sendThrough(int hop, int size) {
        Neighbour next = neighbours.find(hop);
        if (next == null) {
            next = new Neighbour(hop, 0, SOUGHT, time);
            neighbours.add(next);
            ask(next);
        }
        if (next.state == SOUGHT) {
            next.waitingSize = size;
            return WAITS;
        }
        deliver(next, size);
        return SENT;
    }

    private void ask(Neighbour wanted) {
        out.add(OUT_ASK, wanted.state == SOUGHT ? GROUP : wanted.address, wanted.address);
    }

    private void sendWaiting(Neighbour found) {
        if (found.hasWaiting()) {
            deliver(found, found.waitingSize);
            found.waitingSize = 0;
        }
    }

    private void deliver(Neighbour next, int size) {
        out.add(OUT_PACKET, next.address, size);
        if (next.state == STALE) {
            next.enter(DELAY, time);
        }
    }

    private boolean isForHost(int to) {
        if (to == GROUP) {
            return true;
        }
        OwnAddress target = owns.find(to);
        return target != null && target.isUsable();
    }

    private int lookAtHeaders(int from, boolean toGroup) {
        for (int i = 0; i < headers.held; i++) {
            if (!goesOn(i, from, toGroup)) {
                return i + 1;
            }
        }
        return headers.held;
    }

    /** Does what header i asks for; whether the header behind it is looked at, too. */
    private boolean goesOn(int i, int from, boolean toGroup) {
        int kind = headers.kinds[i];
        int number = headers.numbers[i];
        switch (kind == HOPS && i == 0 ? OPTIONS : kind) {
            case OPTIONS:
                if (number == 2 || number == 3 && !toGroup) {
                    answerFault(i, FAULT_OPTION, from, toGroup);
                }
                return number == 0;
            case ROUTE:
                if (number != 0) {
                    answerFault(i, FAULT_ROUTE, from, toGroup);
                }
                return number == 0;
            case PART:
                return number == 0;
            case NOTHING:
                return false;
            case ECHO:
                if (from != NONE) {
                    out.add(OUT_ECHO, from, number);
                }
                return false;
            case DATA:
                taken++;
                return false;
            default:
                answerFault(i, FAULT_KIND, from, toGroup);
                return false;
        }
    }

    private void answerFault(int i, int fault, int from, boolean toGroup) {
        boolean isAnswered = !toGroup || fault == FAULT_OPTION;
        if (isAnswered && from != NONE && bucket > 0) {
            bucket--;
            out.add(OUT_FAULT, from, 16 * i + fault);
        }
    }

    /** The latest that was sent, in a ring. */
    private static final class Out {
        private final int[] kinds = new int[MOST_OUT];
        private final int[] tos = new int[MOST_OUT];
        private final int[] xs = new int[MOST_OUT];
        private int next = 0;
        private int held = 0;
        private int inAll = 0;

        private void add(int kind, int to, int x) {
            kinds[next] = kind;
            tos[next] = to;
            xs[next] = x;
            next = (next + 1) % MOST_OUT;
            held = Math.min(held + 1, MOST_OUT);
            inAll++;
        }

        /** Where that stands which was sent i before the latest. */
        private int slot(int i) {
            return Math.floorMod(next - 1 - i, MOST_OUT);
        }
    }

    private static final class OwnAddress {
        private final int address;
        private final int formedAt;
        private int state = TENTATIVE;
        private int validEnd = NEVER;
        private int preferredEnd = NEVER;

        private OwnAddress(int address, int formedAt) {
            this.address = address;
            this.formedAt = formedAt;
        }

        private boolean isUsable() {
            return state == PREFERRED || state == DEPRECATED;
        }
    }

    private static final class OwnRow {
        private final ArrayList<OwnAddress> row = new ArrayList<>();

        private int length() {
            return row.size();
        }

        private OwnAddress at(int i) {
            return row.get(i);
        }

        private void add(OwnAddress added) {
            row.add(added);
        }

        private OwnAddress find(int address) {
            for (int i = 0; i < row.size(); i++) {
                if (row.get(i).address == address) {
                    return row.get(i);
                }
            }
            return null;
        }

        private boolean hasUsable(boolean local) {
            for (int i = 0; i < row.size(); i++) {
                OwnAddress candidate = row.get(i);
                if (candidate.isUsable() && isLocal(candidate.address) == local) {
                    return true;
                }
            }
            return false;
        }

        private void expire(int time) {
            for (int i = row.size() - 1; i >= 0; i--) {
                if (time >= row.get(i).validEnd) {
                    row.remove(i);
                }
            }
        }
    }

    private static final class Neighbour {
        private final int address;
        private int number;
        private int state;
        private int since;
        private boolean isRouter = false;
        /** The size of the packet that waits; 0 if none does, as no packet has that size. */
        private int waitingSize = 0;

        private Neighbour(int address, int number, int state, int since) {
            this.address = address;
            this.number = number;
            this.state = state;
            this.since = since;
        }

        private void enter(int newState, int time) {
            state = newState;
            since = time;
        }

        private boolean isAskedFor() {
            return state == SOUGHT || state == PROBED;
        }

        private boolean hasWaiting() {
            return waitingSize != 0;
        }
    }

    private static final class NeighbourRow {
        private final ArrayList<Neighbour> row = new ArrayList<>();

        private int length() {
            return row.size();
        }

        private Neighbour at(int i) {
            return row.get(i);
        }

        private void add(Neighbour added) {
            if (row.size() >= MOST_NEIGHBOURS) {
                row.remove(0);
            }
            row.add(added);
        }

        private Neighbour find(int address) {
            for (int i = 0; i < row.size(); i++) {
                if (row.get(i).address == address) {
                    return row.get(i);
                }
            }
            return null;
        }

        /** Takes away those that were asked for in vain; how many packets waited for them. */
        private int giveUp(int time) {
            int waited = 0;
            for (int i = row.size() - 1; i >= 0; i--) {
                Neighbour silent = row.get(i);
                if (silent.isAskedFor() && time - silent.since >= ASKING_TICKS) {
                    waited += silent.hasWaiting() ? 1 : 0;
                    row.remove(i);
                }
            }
            return waited;
        }
    }

    /** A router (by its address), an on-link prefix, or a path (by its address, with its size). */
    private static final class Timed {
        private final int key;
        private int end;
        private int size;

        private Timed(int key, int end, int size) {
            this.key = key;
            this.end = end;
            this.size = size;
        }
    }

    private static final class TimedRow {
        private final ArrayList<Timed> row = new ArrayList<>();
        private final int most;

        private TimedRow(int most) {
            this.most = most;
        }

        private int length() {
            return row.size();
        }

        private Timed at(int i) {
            return row.get(i);
        }

        private Timed find(int key) {
            for (int i = 0; i < row.size(); i++) {
                if (row.get(i).key == key) {
                    return row.get(i);
                }
            }
            return null;
        }

        /** One that is there already keeps its place. */
        private void keep(int key, int end, int size) {
            Timed kept = find(key);
            if (kept != null) {
                kept.end = end;
                kept.size = size;
                return;
            }
            if (row.size() >= most && !row.isEmpty()) {
                row.remove(0);
            }
            row.add(new Timed(key, end, size));
        }

        private void drop(int key) {
            for (int i = row.size() - 1; i >= 0; i--) {
                if (row.get(i).key == key) {
                    row.remove(i);
                }
            }
        }

        private void expire(int time) {
            for (int i = row.size() - 1; i >= 0; i--) {
                if (time >= row.get(i).end) {
                    row.remove(i);
                }
            }
        }
    }

    /** The headers of the packet that will come next. */
    private static final class Headers {
        private final int[] kinds = new int[MOST_HEADERS];
        private final int[] numbers = new int[MOST_HEADERS];
        private int held = 0;

        private boolean isFull() {
            return held >= MOST_HEADERS;
        }

        private void add(int kind, int number) {
            kinds[held] = kind;
            numbers[held] = number;
            held++;
        }

        private void clear() {
            held = 0;
        }
    }
}
