/**
 * Caches of four cores that agree by a home with a directory, and small programs of which all
 * outcomes are told. All rows are made with the object: a call makes no objects.
 */
public final class HearthCache {
    public static final int NONE = -1;
    public static final int REQUEST = 0, FORWARD = 1, ANSWER = 2;
    public static final int INVALID = 0, SHARED = 1, EXCLUSIVE = 2, MODIFIED = 3, WAITS_READ = 4, WAITS_WRITE = 5;
    public static final int STRICT = 0, BUFFERED = 1;
    public static final int STORE = 0, LOAD = 1, FENCE = 2, ADD = 3;

    private static final int CORES = 4;
    private static final int LINES = 16;
    private static final int HOME = 4;
    private static final int RECEIVERS = 5;
    private static final int CLASSES = 3;
    private static final int VALUES = 1000;
    private static final int LEAVING_MARK = 10;
    private static final int ALL_CORES = 15;

    private static final int COUNTERS = 10;
    private static final int LOADS_FROM_CACHE = 0, READS_SENT = 1, WRITES_SENT = 2, PUTS_SENT = 3, KILLS_SENT = 4;
    private static final int FETCHES_SENT = 5, STRIDE_READS = 6, ENDED_WELL = 7, ENDED_BROKEN = 8, OVERFLOWS = 9;

    private static final int THREADS = 3;
    private static final int THREAD_STEPS = 4;
    private static final int PROGRAM_STEPS = 6;
    private static final int SLOTS = THREADS * THREAD_STEPS;
    private static final int PLACES = 3;

    private final int[] counts = new int[COUNTERS];
    private final Mail mail = new Mail();
    private final Home hearth = new Home(mail, counts);
    private final Core[] cores = new Core[CORES];
    private final Program program = new Program();
    private final Outcomes strictOutcomes = new Outcomes();
    private final Outcomes bufferedOutcomes = new Outcomes();
    private final Orders orders = new Orders();

    public HearthCache() {
        for (int core = 0; core < CORES; core++) {
            cores[core] = new Core(core, mail, counts);
        }
    }

    // ---- cores

    public int load(int core, int line) throws IndexOutOfBoundsException, IllegalStateException {
        needCore(core);
        needLine(line);
        if (!cores[core].transaction.admits(line)) {
            throw new IllegalStateException("the transaction has all its lines");
        }
        return cores[core].read(line);
    }

    public int store(int core, int line, int value)
            throws IndexOutOfBoundsException, IllegalArgumentException, IllegalStateException {
        needCore(core);
        needLine(line);
        needWithin(value, 0, VALUES - 1);
        if (!cores[core].hasRoomForStore(line)) {
            throw new IllegalStateException("no room for the store");
        }
        return cores[core].keepStore(line, value);
    }

    public boolean drain(int core) throws IndexOutOfBoundsException {
        needCore(core);
        return cores[core].doOldestStore();
    }

    public boolean fence(int core) throws IndexOutOfBoundsException {
        needCore(core);
        return cores[core].buffered == 0;
    }

    public int add(int core, int line, int by)
            throws IndexOutOfBoundsException, IllegalArgumentException, IllegalStateException {
        needCore(core);
        needLine(line);
        needWithin(by, 1, 9);
        if (!cores[core].isAtRest()) {
            throw new IllegalStateException("the buffer is not empty, or there is a transaction");
        }
        return cores[core].addAtOnce(line, by);
    }

    public int begin(int core) throws IndexOutOfBoundsException, IllegalStateException {
        needCore(core);
        if (!cores[core].isAtRest()) {
            throw new IllegalStateException("the buffer is not empty, or there is a transaction");
        }
        return cores[core].transaction.open();
    }

    public int end(int core) throws IndexOutOfBoundsException, IllegalStateException {
        needCore(core);
        if (!cores[core].transaction.isOpen) {
            throw new IllegalStateException("there is no transaction");
        }
        return cores[core].endTransaction();
    }

    // ---- messages

    public int deliver(int of, int receiver)
            throws IndexOutOfBoundsException, IllegalArgumentException, IllegalStateException {
        needIndex(receiver, RECEIVERS);
        needWithin(of, 0, CLASSES - 1);
        if (mail.size(of, receiver) == 0) {
            throw new IllegalStateException("the queue is empty");
        }
        return deliverFirst(of, receiver);
    }

    public int pump(int rounds) throws IllegalArgumentException {
        needWithin(rounds, 1, 20);
        int delivered = 0;
        for (int round = 0; round < rounds; round++) {
            for (int of = ANSWER; of >= REQUEST; of--) {
                for (int receiver = 0; receiver < RECEIVERS; receiver++) {
                    if (mail.size(of, receiver) > 0) {
                        deliverFirst(of, receiver);
                        delivered++;
                    }
                }
            }
        }
        return delivered;
    }

    public int queued(int of, int receiver) throws IndexOutOfBoundsException, IllegalArgumentException {
        needIndex(receiver, RECEIVERS);
        needWithin(of, 0, CLASSES - 1);
        return mail.size(of, receiver);
    }

    // ---- what there is

    public int stateOf(int core, int line) throws IndexOutOfBoundsException {
        needCore(core);
        needLine(line);
        Place place = cores[core].placeOf(line);
        int state = place == null ? INVALID : place.state;
        return cores[core].leaving[line] == NONE ? state : state + LEAVING_MARK;
    }

    public int valueIn(int core, int line) throws IndexOutOfBoundsException {
        needCore(core);
        needLine(line);
        Place place = cores[core].placeOf(line);
        return place != null && place.hasValue() ? place.value : NONE;
    }

    public int home(int line) throws IndexOutOfBoundsException {
        needLine(line);
        return hearth.lines[line].value;
    }

    public int owner(int line) throws IndexOutOfBoundsException {
        needLine(line);
        return hearth.lines[line].owner;
    }

    public int sharers(int line) throws IndexOutOfBoundsException {
        needLine(line);
        return hearth.lines[line].sharers;
    }

    public int waiting(int line) throws IndexOutOfBoundsException {
        needLine(line);
        HomeLine known = hearth.lines[line];
        return known.isBusy ? known.inRow + 1 : known.inRow;
    }

    public int truth(int line) throws IndexOutOfBoundsException {
        needLine(line);
        int atHome = hearth.lines[line].value;
        int owner = hearth.lines[line].owner;
        if (owner < 0 || owner >= CORES) {
            return atHome;
        }
        Place place = cores[owner].placeOf(line);
        if (place != null && place.mayBeWritten()) {
            return place.value;
        }
        if (cores[owner].leaving[line] != NONE) {
            return cores[owner].leaving[line];
        }
        int onTheWay = mail.valueOnTheWayHome(line);
        return onTheWay == NONE ? atHome : onTheWay;
    }

    public boolean isCoherent() {
        for (int line = 0; line < LINES; line++) {
            if (!isLineCoherent(line)) {
                return false;
            }
        }
        return true;
    }

    public int counter(int which) throws IllegalArgumentException {
        needWithin(which, 0, COUNTERS - 1);
        return counts[which];
    }

    // ---- programs

    public int clear() {
        strictOutcomes.forget();
        bufferedOutcomes.forget();
        return program.empty();
    }

    public int step(int thread, int what, int place, int value)
            throws IndexOutOfBoundsException, IllegalArgumentException, IllegalStateException {
        needIndex(thread, THREADS);
        if (what != FENCE) {
            needIndex(place, PLACES);
        }
        needWithin(what, STORE, ADD);
        if (what == STORE) {
            needWithin(value, 1, 9);
        }
        if (!program.hasRoom(thread)) {
            throw new IllegalStateException("the thread, or the program, has all its steps");
        }
        strictOutcomes.forget();
        bufferedOutcomes.forget();
        return program.append(thread, what, what == FENCE ? 0 : place, what == STORE ? value : 0);
    }

    public int outcomes(int model) throws IllegalArgumentException {
        needWithin(model, STRICT, BUFFERED);
        return outcomesBy(model).size;
    }

    public int outcome(int model, int place) throws IndexOutOfBoundsException, IllegalArgumentException {
        needWithin(model, STRICT, BUFFERED);
        Outcomes found = outcomesBy(model);
        needIndex(place, found.size);
        return found.numbers[place];
    }

    public int outcomesAnew(int model) throws IllegalArgumentException {
        needWithin(model, STRICT, BUFFERED);
        return orders.countOutcomes(program, model);
    }

    public boolean areAlike() {
        return outcomesBy(STRICT).isSameAs(outcomesBy(BUFFERED));
    }

    // ---- arguments

    private static void needCore(int core) {
        needIndex(core, CORES);
    }

    private static void needLine(int line) {
        needIndex(line, LINES);
    }

    private static void needIndex(int index, int bound) {
        if (index < 0 || index >= bound) {
            throw new IndexOutOfBoundsException("there is no such core, receiver, line, thread or place");
        }
    }

    private static void needWithin(int argument, int least, int most) {
        if (argument < least || argument > most) {
            throw new IllegalArgumentException("an argument is out of its range");
        }
    }

    // ---- parts of the calls

    private int deliverFirst(int of, int receiver) {
        int message = mail.take(of, receiver);
        if (message == NONE) {
            return NONE;
        }
        if (receiver >= 0 && receiver < CORES) {
            cores[receiver].receive(message);
        } else if (of == REQUEST) {
            hearth.receiveRequest(message);
        } else {
            hearth.receiveAnswer(message);
        }
        return Message.lineOf(message);
    }

    private boolean isLineCoherent(int line) {
        int writers = 0;
        int holders = 0;
        int agreed = NONE;
        for (int core = 0; core < CORES; core++) {
            Place place = cores[core].placeOf(line);
            if (place == null || !place.hasValue()) {
                continue;
            }
            holders++;
            if (place.mayBeWritten()) {
                writers++;
            }
            if (place.state != MODIFIED) {
                if (agreed != NONE && agreed != place.value) {
                    return false;
                }
                agreed = place.value;
            }
        }
        return writers == 0 || holders == 1;
    }

    private Outcomes outcomesBy(int model) {
        Outcomes found = model == STRICT ? strictOutcomes : bufferedOutcomes;
        if (!found.areKnown) {
            found.forget();
            Search.explore(program, found, model, 0L, 0, 0);
            found.areKnown = true;
        }
        return found;
    }

    // A message is one int, so that messages on their way cost no objects.
    private static final class Message {
        static final int READ = 0, WRITE = 1, PUT = 2;
        static final int KILL = 3, FETCH = 4, TAKE = 5;
        static final int DATA_SHARED = 6, DATA_EXCLUSIVE = 7, DATA_MODIFIED = 8, DONE = 9;
        static final int REPLY = 10;

        private static final int LINE_SHIFT = 4, CORE_SHIFT = 8, VALUE_SHIFT = 10;

        // The core is the one that asks; only requests are looked at for it.
        static int of(int kind, int line, int core, int value) {
            return kind | (line << LINE_SHIFT) | (core << CORE_SHIFT) | ((value + 1) << VALUE_SHIFT);
        }

        static int kindOf(int message) {
            return message & 15;
        }

        static int lineOf(int message) {
            return (message >> LINE_SHIFT) & 15;
        }

        static int coreOf(int message) {
            return (message >> CORE_SHIFT) & 3;
        }

        static int valueOf(int message) {
            return (message >> VALUE_SHIFT) - 1;
        }
    }

    private static final class Mail {
        // A core has at most one request or PUT of each line that is not answered yet: 4 times 16 is never passed.
        private static final int ROOM = 64;
        // The queue of a class and a receiver is RECEIVERS * class + receiver.
        private static final int QUEUES = CLASSES * RECEIVERS;
        private static final int ANSWERS_HOME = ANSWER * RECEIVERS + HOME;

        private final int[][] queues = new int[QUEUES][ROOM];
        private final int[] firsts = new int[QUEUES];
        private final int[] sizes = new int[QUEUES];

        int size(int of, int receiver) {
            int queue = of * RECEIVERS + receiver;
            return queue < 0 || queue >= QUEUES ? 0 : sizes[queue];
        }

        void send(int of, int receiver, int message) {
            int queue = of * RECEIVERS + receiver;
            if (queue < 0 || queue >= QUEUES || sizes[queue] >= ROOM) {
                return;
            }
            queues[queue][(firsts[queue] + sizes[queue]) % ROOM] = message;
            sizes[queue]++;
        }

        int take(int of, int receiver) {
            int queue = of * RECEIVERS + receiver;
            if (queue < 0 || queue >= QUEUES || sizes[queue] == 0) {
                return NONE;
            }
            int message = queues[queue][firsts[queue]];
            firsts[queue] = (firsts[queue] + 1) % ROOM;
            sizes[queue]--;
            return message;
        }

        int valueOnTheWayHome(int line) {
            for (int i = 0; i < sizes[ANSWERS_HOME]; i++) {
                int message = queues[ANSWERS_HOME][(firsts[ANSWERS_HOME] + i) % ROOM];
                if (Message.lineOf(message) == line && Message.valueOf(message) != NONE) {
                    return Message.valueOf(message);
                }
            }
            return NONE;
        }
    }

    private static final class HomeLine {
        int value = 0;
        int owner = NONE;
        int sharers = 0;
        boolean isBusy = false;
        int busyWith = 0;
        int answersDue = 0;
        // A core waits with at most one request of a line, so one of each is room enough.
        final int[] row = new int[CORES];
        int inRow = 0;

        boolean hasOtherOwner(int core) {
            return owner != NONE && owner != core;
        }

        // Returns whether the line overflows by this sharer.
        boolean addSharer(int core) {
            int more = sharers | (1 << core);
            boolean overflows = sharers != ALL_CORES && Integer.bitCount(more) > 2;
            sharers = overflows ? ALL_CORES : more;
            return overflows;
        }

        void belongTo(int core) {
            owner = core;
            sharers = 0;
        }

        void becomeSharedWith(int core) {
            sharers = 1 << core;
            if (owner != NONE) {
                sharers |= 1 << owner;
            }
            owner = NONE;
        }

        void putInRow(int message) {
            if (inRow < row.length) {
                row[inRow] = message;
                inRow++;
            }
        }

        // To be called only with a request in the row.
        int takeFromRow() {
            int message = row[0];
            inRow--;
            for (int i = 0; i < inRow && i + 1 < row.length; i++) {
                row[i] = row[i + 1];
            }
            return message;
        }

        void waitForAnswers(int message, int answers) {
            isBusy = true;
            busyWith = message;
            answersDue = answers;
        }
    }

    private static final class Home {
        final HomeLine[] lines = new HomeLine[LINES];
        private final Mail mail;
        private final int[] counts;

        Home(Mail mail, int[] counts) {
            this.mail = mail;
            this.counts = counts;
            for (int line = 0; line < LINES; line++) {
                lines[line] = new HomeLine();
            }
        }

        void receiveRequest(int message) {
            HomeLine known = lines[Message.lineOf(message)];
            if (known.isBusy) {
                known.putInRow(message);
            } else {
                serve(known, message);
            }
        }

        void receiveAnswer(int message) {
            HomeLine known = lines[Message.lineOf(message)];
            if (!known.isBusy) {
                return;
            }
            if (Message.valueOf(message) != NONE) {
                known.value = Message.valueOf(message);
            }
            known.answersDue--;
            if (known.answersDue > 0) {
                return;
            }
            finish(known);
            for (int i = 0; i < CORES && known.inRow > 0 && !known.isBusy; i++) {
                serve(known, known.takeFromRow());
            }
        }

        private void serve(HomeLine known, int message) {
            switch (Message.kindOf(message)) {
                case Message.READ:
                    serveRead(known, message);
                    break;
                case Message.WRITE:
                    serveWrite(known, message);
                    break;
                default:
                    servePut(known, message);
                    break;
            }
        }

        private void serveRead(HomeLine known, int message) {
            int core = Message.coreOf(message);
            if (known.hasOtherOwner(core)) {
                forward(Message.FETCH, known.owner, message);
                known.waitForAnswers(message, 1);
            } else if (known.sharers == 0) {
                known.owner = core;
                answer(Message.DATA_EXCLUSIVE, message, known.value);
            } else {
                if (known.addSharer(core)) {
                    counts[OVERFLOWS]++;
                }
                answer(Message.DATA_SHARED, message, known.value);
            }
        }

        private void serveWrite(HomeLine known, int message) {
            int writer = Message.coreOf(message);
            int answers = 0;
            if (known.hasOtherOwner(writer)) {
                forward(Message.TAKE, known.owner, message);
                answers = 1;
            } else {
                for (int core = 0; core < CORES; core++) {
                    if (core != writer && ((known.sharers >> core) & 1) == 1) {
                        forward(Message.KILL, core, message);
                        answers++;
                    }
                }
            }
            if (answers > 0) {
                known.waitForAnswers(message, answers);
            } else {
                known.belongTo(writer);
                answer(Message.DATA_MODIFIED, message, known.value);
            }
        }

        private void servePut(HomeLine known, int message) {
            if (known.owner == Message.coreOf(message)) {
                known.value = Message.valueOf(message);
                known.owner = NONE;
            }
            answer(Message.DONE, message, NONE);
        }

        private void finish(HomeLine known) {
            known.isBusy = false;
            int message = known.busyWith;
            if (Message.kindOf(message) == Message.WRITE) {
                known.belongTo(Message.coreOf(message));
                answer(Message.DATA_MODIFIED, message, known.value);
            } else {
                known.becomeSharedWith(Message.coreOf(message));
                answer(Message.DATA_SHARED, message, known.value);
            }
        }

        private void forward(int kind, int core, int request) {
            counts[kind == Message.KILL ? KILLS_SENT : FETCHES_SENT]++;
            mail.send(FORWARD, core, Message.of(kind, Message.lineOf(request), 0, NONE));
        }

        private void answer(int kind, int request, int value) {
            mail.send(ANSWER, Message.coreOf(request), Message.of(kind, Message.lineOf(request), 0, value));
        }
    }

    private static final class Place {
        static final int NOTHING = 0;

        int line = NONE;
        int state = INVALID;
        int value = 0;
        int usedAt = 0;
        // What came while the line waited; nobody looks at it when it does not wait any more.
        boolean killCame = false;
        // FETCH or TAKE, if one came; else NOTHING.
        int forwardCame = NOTHING;

        boolean isEmpty() {
            return state == INVALID;
        }

        boolean waits() {
            return state == WAITS_READ || state == WAITS_WRITE;
        }

        boolean hasValue() {
            return state == SHARED || mayBeWritten();
        }

        boolean mayBeWritten() {
            return state == EXCLUSIVE || state == MODIFIED;
        }

        void becomeEmpty() {
            line = NONE;
            state = INVALID;
        }

        void waitFor(int newLine, boolean toBeWritten) {
            line = newLine;
            state = toBeWritten ? WAITS_WRITE : WAITS_READ;
            killCame = false;
            forwardCame = NOTHING;
        }

        void fill(int newState, int newValue) {
            state = newState;
            value = newValue;
        }
    }

    private static final class Transaction {
        private static final int MOST_LINES = 4;

        boolean isOpen = false;
        boolean isBroken = false;
        private int brokenSoFar = 0;
        private int lines = 0;
        private int storedLines = 0;
        private final boolean[] isInIt = new boolean[LINES];
        private final int[] stored = new int[LINES];

        // Returns how many were broken before it.
        int open() {
            isOpen = true;
            isBroken = false;
            lines = 0;
            storedLines = 0;
            for (int line = 0; line < LINES; line++) {
                isInIt[line] = false;
                stored[line] = NONE;
            }
            return brokenSoFar;
        }

        void close() {
            isOpen = false;
            if (isBroken) {
                brokenSoFar++;
            }
        }

        boolean has(int line) {
            return isOpen && isInIt[line];
        }

        boolean admits(int line) {
            return !isOpen || isInIt[line] || lines < MOST_LINES;
        }

        void include(int line) {
            if (!isInIt[line]) {
                isInIt[line] = true;
                lines++;
            }
        }

        int keep(int line, int value) {
            include(line);
            if (stored[line] == NONE) {
                storedLines++;
            }
            stored[line] = value;
            return storedLines;
        }

        int storedTo(int line) {
            return isOpen ? stored[line] : NONE;
        }

        void meet(int kind, int line) {
            if (has(line) && (kind != Message.FETCH || stored[line] != NONE)) {
                isBroken = true;
            }
        }
    }

    private static final class Core {
        private static final int CACHE_PLACES = 4;
        private static final int BUFFER_ROOM = 4;

        private final int number;
        private final Mail mail;
        private final int[] counts;
        private final Place[] places = new Place[CACHE_PLACES];
        // The value with which a line is LEAVING, or NONE.
        final int[] leaving = new int[LINES];
        private final int[] bufferedLines = new int[BUFFER_ROOM];
        private final int[] bufferedValues = new int[BUFFER_ROOM];
        int buffered = 0;
        final Transaction transaction = new Transaction();
        private int uses = 0;
        private int lastReadLine = NONE;
        // 0 before there is one, as 0 is never looked ahead with.
        private int lastStride = 0;

        Core(int number, Mail mail, int[] counts) {
            this.number = number;
            this.mail = mail;
            this.counts = counts;
            for (int i = 0; i < CACHE_PLACES; i++) {
                places[i] = new Place();
            }
            for (int line = 0; line < LINES; line++) {
                leaving[line] = NONE;
            }
        }

        // ---- what the core does

        int read(int line) {
            int own = transaction.isOpen ? transaction.storedTo(line) : latestBuffered(line);
            if (own != NONE) {
                return own;
            }
            Place place = placeOf(line);
            if (place != null && place.hasValue()) {
                counts[LOADS_FROM_CACHE]++;
                use(place);
                if (transaction.isOpen) {
                    transaction.include(line);
                }
                return place.value;
            }
            boolean readWasSent = ask(line, false);
            if (readWasSent && !transaction.isOpen) {
                learnStride(line);
            }
            return NONE;
        }

        boolean hasRoomForStore(int line) {
            return transaction.isOpen ? transaction.admits(line) : buffered < BUFFER_ROOM;
        }

        int keepStore(int line, int value) {
            if (transaction.isOpen) {
                return transaction.keep(line, value);
            }
            if (buffered < BUFFER_ROOM) {
                bufferedLines[buffered] = line;
                bufferedValues[buffered] = value;
                buffered++;
            }
            return buffered;
        }

        boolean doOldestStore() {
            if (buffered == 0) {
                return false;
            }
            int line = bufferedLines[0];
            Place place = placeOf(line);
            if (place == null || !place.mayBeWritten()) {
                ask(line, true);
                return false;
            }
            write(place, bufferedValues[0]);
            buffered--;
            for (int i = 0; i < buffered && i + 1 < BUFFER_ROOM; i++) {
                bufferedLines[i] = bufferedLines[i + 1];
                bufferedValues[i] = bufferedValues[i + 1];
            }
            return true;
        }

        boolean isAtRest() {
            return buffered == 0 && !transaction.isOpen;
        }

        int addAtOnce(int line, int by) {
            Place place = placeOf(line);
            if (place == null || !place.mayBeWritten()) {
                ask(line, true);
                return NONE;
            }
            int before = place.value;
            write(place, (before + by) % VALUES);
            return before;
        }

        int endTransaction() {
            if (transaction.isBroken) {
                counts[ENDED_BROKEN]++;
                transaction.close();
                return 0;
            }
            if (askForStoredLines()) {
                return NONE;
            }
            for (int line = 0; line < LINES; line++) {
                Place place = placeOf(line);
                if (place != null && transaction.storedTo(line) != NONE) {
                    write(place, transaction.storedTo(line));
                }
            }
            counts[ENDED_WELL]++;
            transaction.close();
            return 1;
        }

        // Returns whether one of them had to be asked for.
        private boolean askForStoredLines() {
            boolean asked = false;
            for (int line = 0; line < LINES; line++) {
                Place place = placeOf(line);
                boolean mayBeWritten = place != null && place.mayBeWritten();
                if (transaction.storedTo(line) != NONE && !mayBeWritten) {
                    ask(line, true);
                    asked = true;
                }
            }
            return asked;
        }

        private int latestBuffered(int line) {
            for (int i = buffered - 1; i >= 0 && i < BUFFER_ROOM; i--) {
                if (bufferedLines[i] == line) {
                    return bufferedValues[i];
                }
            }
            return NONE;
        }

        private void learnStride(int line) {
            int stride = lastReadLine == NONE ? 0 : line - lastReadLine;
            boolean isSteady = stride != 0 && stride == lastStride;
            lastReadLine = line;
            lastStride = stride;
            int ahead = line + stride;
            if (!isSteady || ahead < 0 || ahead >= LINES) {
                return;
            }
            if (placeOf(ahead) == null && emptyPlace() != null && ask(ahead, false)) {
                counts[STRIDE_READS]++;
            }
        }

        // ---- its cache

        Place placeOf(int line) {
            for (int i = 0; i < CACHE_PLACES; i++) {
                if (places[i].line == line) {
                    return places[i];
                }
            }
            return null;
        }

        private Place emptyPlace() {
            for (int i = 0; i < CACHE_PLACES; i++) {
                if (places[i].isEmpty()) {
                    return places[i];
                }
            }
            return null;
        }

        private void use(Place place) {
            uses++;
            place.usedAt = uses;
        }

        private void write(Place place, int value) {
            place.state = MODIFIED;
            place.value = value;
            use(place);
        }

        // Returns whether READ or WRITE was sent.
        private boolean ask(int line, boolean toBeWritten) {
            if (leaving[line] != NONE) {
                return false;
            }
            Place place = placeOf(line);
            if (place != null && (place.state != SHARED || !toBeWritten)) {
                return false;
            }
            if (place == null) {
                place = emptyPlace();
            }
            if (place == null) {
                place = longestUnused();
            }
            if (place == null) {
                return false;
            }
            if (place.line != line) {
                vacate(place);
            }
            place.waitFor(line, toBeWritten);
            counts[toBeWritten ? WRITES_SENT : READS_SENT]++;
            send(REQUEST, toBeWritten ? Message.WRITE : Message.READ, line, NONE);
            return true;
        }

        private Place longestUnused() {
            Place oldest = null;
            for (int i = 0; i < CACHE_PLACES; i++) {
                Place place = places[i];
                boolean mayGo = place.hasValue() && !transaction.has(place.line);
                if (mayGo && (oldest == null || place.usedAt < oldest.usedAt)) {
                    oldest = place;
                }
            }
            return oldest;
        }

        private void vacate(Place place) {
            if (place.mayBeWritten()) {
                leaving[place.line] = place.value;
                counts[PUTS_SENT]++;
                send(REQUEST, Message.PUT, place.line, place.value);
            }
            place.becomeEmpty();
        }

        private void send(int of, int kind, int line, int value) {
            mail.send(of, HOME, Message.of(kind, line, number, value));
        }

        // ---- what comes to it

        void receive(int message) {
            int kind = Message.kindOf(message);
            int line = Message.lineOf(message);
            switch (kind) {
                case Message.KILL:
                    transaction.meet(kind, line);
                    receiveKill(line);
                    break;
                case Message.FETCH:
                case Message.TAKE:
                    transaction.meet(kind, line);
                    giveUp(kind, line);
                    break;
                case Message.DONE:
                    leaving[line] = NONE;
                    break;
                default:
                    receiveData(SHARED + kind - Message.DATA_SHARED, line, Message.valueOf(message));
                    break;
            }
        }

        private void receiveKill(int line) {
            Place place = placeOf(line);
            if (place != null && place.state == SHARED) {
                place.becomeEmpty();
            } else if (place != null && place.state == WAITS_READ) {
                place.killCame = true;
            }
            send(ANSWER, Message.REPLY, line, NONE);
        }

        private void giveUp(int kind, int line) {
            Place place = placeOf(line);
            if (place != null && place.waits()) {
                place.forwardCame = kind;
            } else if (place != null && place.mayBeWritten()) {
                send(ANSWER, Message.REPLY, line, place.value);
                if (kind == Message.FETCH) {
                    place.state = SHARED;
                } else {
                    place.becomeEmpty();
                }
            } else if (leaving[line] != NONE) {
                send(ANSWER, Message.REPLY, line, leaving[line]);
            }
        }

        private void receiveData(int state, int line, int value) {
            Place place = placeOf(line);
            if (place == null || !place.waits()) {
                return;
            }
            if (state == SHARED && place.killCame) {
                place.becomeEmpty();
            } else {
                place.fill(state, value);
                use(place);
            }
            // It broke a transaction, if it had to, when it came.
            if (place.forwardCame != Place.NOTHING) {
                giveUp(place.forwardCame, line);
            }
        }
    }

    // A thread's step has the slot 4 * thread + step.
    private static final class Program {
        final int[] whats = new int[SLOTS];
        final int[] places = new int[SLOTS];
        final int[] values = new int[SLOTS];
        // What a slot's result counts in an outcome; 0 without a result.
        final int[] weights = new int[SLOTS];
        final int[] lengths = new int[THREADS];

        int total() {
            int total = 0;
            for (int thread = 0; thread < THREADS; thread++) {
                total += lengths[thread];
            }
            return total;
        }

        boolean hasRoom(int thread) {
            return lengths[thread] < THREAD_STEPS && total() < PROGRAM_STEPS;
        }

        int append(int thread, int what, int place, int value) {
            int slot = thread * THREAD_STEPS + lengths[thread];
            if (slot < 0 || slot >= SLOTS) {
                return lengths[thread];
            }
            whats[slot] = what;
            places[slot] = place;
            values[slot] = value;
            lengths[thread]++;
            weigh();
            return lengths[thread];
        }

        int empty() {
            int had = total();
            for (int thread = 0; thread < THREADS; thread++) {
                lengths[thread] = 0;
            }
            return had;
        }

        boolean isUsed(int slot) {
            return slot % THREAD_STEPS < lengths[slot / THREAD_STEPS];
        }

        private void weigh() {
            int weight = 1;
            for (int slot = SLOTS - 1; slot >= 0; slot--) {
                boolean givesResult = isUsed(slot) && (whats[slot] == LOAD || whats[slot] == ADD);
                weights[slot] = givesResult ? weight : 0;
                if (givesResult) {
                    weight *= 10;
                }
            }
        }

        int told(int slot, int result) {
            return weights[slot] * Math.min(result, 9);
        }
    }

    // Unlike outcomes, by rising numbers.
    private static final class Outcomes {
        // Each of 6 steps becomes visible at one moment, and the order of these moments decides: 6! is never passed.
        private static final int MOST = 720;

        final int[] numbers = new int[MOST];
        int size = 0;
        boolean areKnown = false;

        void forget() {
            size = 0;
            areKnown = false;
        }

        void include(int number) {
            int at = 0;
            while (at < size && numbers[at] < number) {
                at++;
            }
            boolean isThere = at < size && numbers[at] == number;
            if (isThere || size >= MOST) {
                return;
            }
            for (int i = size; i > at; i--) {
                numbers[i] = numbers[i - 1];
            }
            numbers[at] = number;
            size++;
        }

        boolean isSameAs(Outcomes other) {
            if (size != other.size) {
                return false;
            }
            for (int i = 0; i < size; i++) {
                if (numbers[i] != other.numbers[i]) {
                    return false;
                }
            }
            return true;
        }
    }

    // Lets the threads of a program run in every way that can make a difference.
    // A state has parts of 4 bits each: for each thread the next step, for each thread
    // the first step whose store may still be in the buffer, and the value of each place
    // (a 9 that is stored, and 5 additions, make 14 at most).
    private static final class Search {
        private static final int NEXT = 0, UNDRAINED = 3, VALUE = 6;
        private static final int DEEPEST = 2 * PROGRAM_STEPS;

        private static int part(long state, int which) {
            return (int) (state >> (4 * which)) & 15;
        }

        private static long with(long state, int which, int value) {
            int shift = 4 * which;
            return (state & ~(15L << shift)) | ((value & 15L) << shift);
        }

        private static void explore(Program program, Outcomes found, int model, long state, int told, int depth) {
            if (depth > DEEPEST) {
                return;
            }
            int filling = model == BUFFERED ? threadAtStore(program, state) : NONE;
            if (filling != NONE) {
                // Nobody else sees when a store goes into a buffer, so one moment stands for all.
                long kept = with(state, NEXT + filling, part(state, NEXT + filling) + 1);
                explore(program, found, model, kept, told, depth + 1);
                return;
            }
            boolean isOver = true;
            for (int thread = 0; thread < THREADS; thread++) {
                int oldest = model == BUFFERED ? oldestBuffered(program, state, thread) : NONE;
                if (oldest != NONE) {
                    isOver = false;
                    long drained = with(state, VALUE + program.places[oldest], program.values[oldest]);
                    drained = with(drained, UNDRAINED + thread, oldest % THREAD_STEPS + 1);
                    explore(program, found, model, drained, told, depth + 1);
                }
                int slot = nextSlot(program, state, thread);
                if (slot != NONE && (oldest == NONE || program.whats[slot] == LOAD)) {
                    isOver = false;
                    int result = program.told(slot, resultOf(program, model, state, slot));
                    explore(program, found, model, after(program, state, slot), told + result, depth + 1);
                }
            }
            if (isOver) {
                found.include(told);
            }
        }

        private static int nextSlot(Program program, long state, int thread) {
            int next = part(state, NEXT + thread);
            return next < program.lengths[thread] ? thread * THREAD_STEPS + next : NONE;
        }

        private static int threadAtStore(Program program, long state) {
            for (int thread = 0; thread < THREADS; thread++) {
                int slot = nextSlot(program, state, thread);
                if (slot != NONE && program.whats[slot] == STORE) {
                    return thread;
                }
            }
            return NONE;
        }

        private static int oldestBuffered(Program program, long state, int thread) {
            int next = Math.min(part(state, NEXT + thread), THREAD_STEPS);
            for (int i = part(state, UNDRAINED + thread); i < next; i++) {
                if (program.whats[thread * THREAD_STEPS + i] == STORE) {
                    return thread * THREAD_STEPS + i;
                }
            }
            return NONE;
        }

        private static int resultOf(Program program, int model, long state, int slot) {
            int place = program.places[slot];
            int thread = slot / THREAD_STEPS;
            if (model == BUFFERED) {
                int first = thread * THREAD_STEPS + part(state, UNDRAINED + thread);
                for (int i = slot - 1; i >= first && i >= 0; i--) {
                    if (program.whats[i] == STORE && program.places[i] == place) {
                        return program.values[i];
                    }
                }
            }
            return part(state, VALUE + place);
        }

        private static long after(Program program, long state, int slot) {
            int thread = slot / THREAD_STEPS;
            int place = program.places[slot];
            long moved = with(state, NEXT + thread, slot % THREAD_STEPS + 1);
            switch (program.whats[slot]) {
                case STORE:
                    return with(moved, VALUE + place, program.values[slot]);
                case ADD:
                    return with(moved, VALUE + place, part(state, VALUE + place) + 1);
                default:
                    return moved;
            }
        }
    }

    // Goes through all orders in which the steps of a program can become visible, one by one,
    // and keeps those that a model allows.
    private static final class Orders {
        private static final int MOST_ORDERS = 720;

        private final int[] order = new int[PROGRAM_STEPS];
        private final boolean[] isDone = new boolean[SLOTS];
        private final int[] contents = new int[PLACES];
        private final Outcomes found = new Outcomes();

        int countOutcomes(Program program, int model) {
            found.forget();
            int steps = firstOrder(program);
            boolean isOne = true;
            for (int i = 0; i < MOST_ORDERS && isOne; i++) {
                if (isAllowed(program, model, steps)) {
                    found.include(outcomeOf(program, steps));
                }
                isOne = nextOrder(steps);
            }
            return found.size;
        }

        private int firstOrder(Program program) {
            int steps = 0;
            for (int slot = 0; slot < SLOTS; slot++) {
                if (program.isUsed(slot) && steps < PROGRAM_STEPS) {
                    order[steps] = slot;
                    steps++;
                }
            }
            return steps;
        }

        // Goes to the next order by rising slots; returns whether there is one.
        private boolean nextOrder(int steps) {
            int turn = steps - 2;
            while (turn >= 0 && order[turn] > order[turn + 1]) {
                turn--;
            }
            if (turn < 0) {
                return false;
            }
            int above = steps - 1;
            while (above > turn + 1 && order[above] < order[turn]) {
                above--;
            }
            swap(turn, above);
            for (int low = turn + 1, high = steps - 1; low < high; low++, high--) {
                swap(low, high);
            }
            return true;
        }

        private void swap(int one, int other) {
            int slot = order[one];
            order[one] = order[other];
            order[other] = slot;
        }

        private boolean isAllowed(Program program, int model, int steps) {
            for (int i = 0; i < steps; i++) {
                for (int j = i + 1; j < steps; j++) {
                    boolean isTurned = order[i] > order[j] && order[i] / THREAD_STEPS == order[j] / THREAD_STEPS;
                    if (isTurned && !mayOvertake(program, model, order[i], order[j])) {
                        return false;
                    }
                }
            }
            return true;
        }

        // Only a load goes ahead of something of its thread: of stores that are still in the buffer.
        private static boolean mayOvertake(Program program, int model, int later, int earlier) {
            return model == BUFFERED && program.whats[later] == LOAD && program.whats[earlier] == STORE;
        }

        private int outcomeOf(Program program, int steps) {
            for (int place = 0; place < PLACES; place++) {
                contents[place] = 0;
            }
            for (int slot = 0; slot < SLOTS; slot++) {
                isDone[slot] = false;
            }
            int told = 0;
            for (int i = 0; i < steps; i++) {
                int slot = order[i];
                told += program.told(slot, seenBy(program, slot));
                isDone[slot] = true;
                if (program.whats[slot] == STORE) {
                    contents[program.places[slot]] = program.values[slot];
                } else if (program.whats[slot] == ADD) {
                    contents[program.places[slot]]++;
                }
            }
            return told;
        }

        private int seenBy(Program program, int slot) {
            int place = program.places[slot];
            int first = slot / THREAD_STEPS * THREAD_STEPS;
            for (int i = slot - 1; i >= first && i >= 0; i--) {
                if (program.whats[i] == STORE && program.places[i] == place && !isDone[i]) {
                    return program.values[i];
                }
            }
            return contents[place];
        }
    }
}
