import java.util.ArrayDeque;
import java.util.ArrayList;
import java.util.Deque;
import java.util.HashMap;
import java.util.Iterator;
import java.util.List;
import java.util.Map;
import java.util.TreeMap;
import java.util.TreeSet;

/**
 * The caches of the document once more, written apart from HearthCache and in another way
 * (maps, lists and names instead of rows of numbers), to compare both. Exceptions are answered
 * as the texts "B" (bounds), "A" (argument) and "S" (state).
 */
final class CacheModel {
    private record Message(String kind, int line, int core, Integer value) {
    }

    private static final class AtHome {
        int value = 0;
        Integer owner = null;
        TreeSet<Integer> sharers = new TreeSet<>();
        boolean overflowed = false;
        Message busy = null;
        int due = 0;
        Deque<Message> row = new ArrayDeque<>();
    }

    private static final class Held {
        int line;
        String state;
        int value;
        boolean killed = false;
        String later = null;
    }

    private static final class Tx {
        TreeSet<Integer> loaded = new TreeSet<>();
        TreeMap<Integer, Integer> stores = new TreeMap<>();
        boolean broken = false;

        TreeSet<Integer> lines() {
            TreeSet<Integer> all = new TreeSet<>(loaded);
            all.addAll(stores.keySet());
            return all;
        }
    }

    private static final class Cpu {
        Held[] places = new Held[4];
        /** Lines by use, the latest one last. */
        List<Integer> usage = new ArrayList<>();
        Map<Integer, Integer> leaving = new HashMap<>();
        Deque<int[]> buffer = new ArrayDeque<>();
        Tx tx = null;
        int broken = 0;
        List<Integer> readsOfLoads = new ArrayList<>();

        Held held(int line) {
            for (Held held : places) {
                if (held != null && held.line == line) {
                    return held;
                }
            }
            return null;
        }

        void drop(int line) {
            for (int i = 0; i < 4; i++) {
                if (places[i] != null && places[i].line == line) {
                    places[i] = null;
                }
            }
        }

        void use(int line) {
            usage.remove((Integer) line);
            usage.add(line);
        }

        boolean owns(int line) {
            Held held = held(line);
            return held != null && (held.state.equals("E") || held.state.equals("M"));
        }

        boolean hasEmptyPlace() {
            for (Held held : places) {
                if (held == null) {
                    return true;
                }
            }
            return false;
        }
    }

    private final AtHome[] home = new AtHome[16];
    private final Cpu[] cpus = new Cpu[4];
    private final Map<String, Deque<Message>> queues = new HashMap<>();
    private final int[] counters = new int[10];

    CacheModel() {
        for (int i = 0; i < 16; i++) {
            home[i] = new AtHome();
        }
        for (int i = 0; i < 4; i++) {
            cpus[i] = new Cpu();
        }
    }

    private Deque<Message> queue(int of, int receiver) {
        return queues.computeIfAbsent(of + ">" + receiver, k -> new ArrayDeque<>());
    }

    private static boolean isIn(int x, int low, int high) {
        return x >= low && x <= high;
    }

    private static String wrongCoreOrLine(int core, int line) {
        return isIn(core, 0, 3) && isIn(line, 0, 15) ? null : "B";
    }

    // ---- cores

    String load(int core, int line) {
        if (wrongCoreOrLine(core, line) != null) {
            return "B";
        }
        Cpu cpu = cpus[core];
        if (cpu.tx != null && cpu.tx.lines().size() == 4 && !cpu.tx.lines().contains(line)) {
            return "S";
        }
        if (cpu.tx != null && cpu.tx.stores.containsKey(line)) {
            return "" + cpu.tx.stores.get(line);
        }
        Iterator<int[]> latestFirst = cpu.buffer.descendingIterator();
        while (latestFirst.hasNext()) {
            int[] store = latestFirst.next();
            if (store[0] == line) {
                return "" + store[1];
            }
        }
        Held held = cpu.held(line);
        if (held != null && !held.state.startsWith("W")) {
            counters[0]++;
            cpu.use(line);
            if (cpu.tx != null) {
                cpu.tx.loaded.add(line);
            }
            return "" + held.value;
        }
        if (ask(core, line, "READ") && cpu.tx == null) {
            List<Integer> reads = cpu.readsOfLoads;
            reads.add(line);
            int n = reads.size();
            if (n >= 3) {
                int stride = reads.get(n - 1) - reads.get(n - 2);
                int before = reads.get(n - 2) - reads.get(n - 3);
                int ahead = line + stride;
                if (stride == before && stride != 0 && isIn(ahead, 0, 15) && cpu.held(ahead) == null
                        && !cpu.leaving.containsKey(ahead) && cpu.hasEmptyPlace()) {
                    ask(core, ahead, "READ");
                    counters[6]++;
                }
            }
        }
        return "-1";
    }

    private boolean ask(int core, int line, String kind) {
        Cpu cpu = cpus[core];
        if (cpu.leaving.containsKey(line)) {
            return false;
        }
        Held held = cpu.held(line);
        if (held != null) {
            if (!held.state.equals("S") || kind.equals("READ")) {
                return false;
            }
            held.state = "WW";
            held.killed = false;
            held.later = null;
            sendRequest(core, line, kind, null);
            return true;
        }
        if (!cpu.hasEmptyPlace() && !makeRoom(core)) {
            return false;
        }
        Held fresh = new Held();
        fresh.line = line;
        fresh.state = kind.equals("READ") ? "WR" : "WW";
        for (int i = 0; i < 4; i++) {
            if (cpu.places[i] == null) {
                cpu.places[i] = fresh;
                break;
            }
        }
        sendRequest(core, line, kind, null);
        return true;
    }

    private boolean makeRoom(int core) {
        Cpu cpu = cpus[core];
        for (int line : cpu.usage) {
            Held held = cpu.held(line);
            if (held == null || held.state.startsWith("W") || cpu.tx != null && cpu.tx.lines().contains(line)) {
                continue;
            }
            if (!held.state.equals("S")) {
                cpu.leaving.put(line, held.value);
                sendRequest(core, line, "PUT", held.value);
            }
            cpu.drop(line);
            return true;
        }
        return false;
    }

    private void sendRequest(int core, int line, String kind, Integer value) {
        counters[kind.equals("READ") ? 1 : kind.equals("WRITE") ? 2 : 3]++;
        queue(0, 4).add(new Message(kind, line, core, value));
    }

    String store(int core, int line, int value) {
        if (wrongCoreOrLine(core, line) != null) {
            return "B";
        }
        if (!isIn(value, 0, 999)) {
            return "A";
        }
        Cpu cpu = cpus[core];
        if (cpu.tx == null) {
            if (cpu.buffer.size() == 4) {
                return "S";
            }
            cpu.buffer.addLast(new int[] {line, value});
            return "" + cpu.buffer.size();
        }
        if (cpu.tx.lines().size() == 4 && !cpu.tx.lines().contains(line)) {
            return "S";
        }
        cpu.tx.stores.put(line, value);
        return "" + cpu.tx.stores.size();
    }

    String drain(int core) {
        if (!isIn(core, 0, 3)) {
            return "B";
        }
        Cpu cpu = cpus[core];
        if (cpu.buffer.isEmpty()) {
            return "false";
        }
        int[] store = cpu.buffer.peekFirst();
        if (!cpu.owns(store[0])) {
            ask(core, store[0], "WRITE");
            return "false";
        }
        write(cpu, store[0], store[1]);
        cpu.buffer.removeFirst();
        return "true";
    }

    private static void write(Cpu cpu, int line, int value) {
        Held held = cpu.held(line);
        held.state = "M";
        held.value = value;
        cpu.use(line);
    }

    String fence(int core) {
        return isIn(core, 0, 3) ? "" + cpus[core].buffer.isEmpty() : "B";
    }

    String add(int core, int line, int by) {
        if (wrongCoreOrLine(core, line) != null) {
            return "B";
        }
        if (!isIn(by, 1, 9)) {
            return "A";
        }
        Cpu cpu = cpus[core];
        if (!cpu.buffer.isEmpty() || cpu.tx != null) {
            return "S";
        }
        if (!cpu.owns(line)) {
            ask(core, line, "WRITE");
            return "-1";
        }
        int before = cpu.held(line).value;
        write(cpu, line, (before + by) % 1000);
        return "" + before;
    }

    String begin(int core) {
        if (!isIn(core, 0, 3)) {
            return "B";
        }
        Cpu cpu = cpus[core];
        if (cpu.tx != null || !cpu.buffer.isEmpty()) {
            return "S";
        }
        cpu.tx = new Tx();
        return "" + cpu.broken;
    }

    String end(int core) {
        if (!isIn(core, 0, 3)) {
            return "B";
        }
        Cpu cpu = cpus[core];
        Tx tx = cpu.tx;
        if (tx == null) {
            return "S";
        }
        if (tx.broken) {
            cpu.tx = null;
            cpu.broken++;
            counters[8]++;
            return "0";
        }
        List<Integer> missing = new ArrayList<>();
        for (int line : tx.stores.keySet()) {
            if (!cpu.owns(line)) {
                missing.add(line);
            }
        }
        if (missing.isEmpty()) {
            tx.stores.forEach((line, value) -> write(cpu, line, value));
            cpu.tx = null;
            counters[7]++;
            return "1";
        }
        for (int line : missing) {
            ask(core, line, "WRITE");
        }
        return "-1";
    }

    // ---- messages

    String deliver(int of, int receiver) {
        if (!isIn(receiver, 0, 4)) {
            return "B";
        }
        if (!isIn(of, 0, 2)) {
            return "A";
        }
        if (queue(of, receiver).isEmpty()) {
            return "S";
        }
        Message message = queue(of, receiver).removeFirst();
        if (receiver < 4) {
            coreGets(receiver, message);
        } else if (of == 0) {
            request(message);
        } else {
            answer(message);
        }
        return "" + message.line;
    }

    String pump(int rounds) {
        if (!isIn(rounds, 1, 20)) {
            return "A";
        }
        int delivered = 0;
        for (int round = 0; round < rounds; round++) {
            for (int of : new int[] {2, 1, 0}) {
                for (int receiver = 0; receiver < 5; receiver++) {
                    if (!deliver(of, receiver).equals("S")) {
                        delivered++;
                    }
                }
            }
        }
        return "" + delivered;
    }

    String queued(int of, int receiver) {
        return !isIn(receiver, 0, 4) ? "B" : !isIn(of, 0, 2) ? "A" : "" + queue(of, receiver).size();
    }

    private void request(Message message) {
        AtHome line = home[message.line];
        if (line.busy != null) {
            line.row.addLast(message);
            return;
        }
        boolean otherOwner = line.owner != null && line.owner != message.core;
        if (message.kind.equals("PUT")) {
            if (line.owner != null && !otherOwner) {
                line.value = message.value;
                line.owner = null;
            }
            queue(2, message.core).add(new Message("DONE", message.line, 4, null));
        } else if (otherOwner) {
            forward(line.owner, message.kind.equals("READ") ? "FETCH" : "TAKE", message);
        } else if (message.kind.equals("WRITE")) {
            for (int core = 0; core < 4; core++) {
                if (core != message.core && (line.overflowed || line.sharers.contains(core))) {
                    forward(core, "KILL", message);
                }
            }
            if (line.busy == null) {
                grantWrite(message);
            }
        } else if (line.sharers.isEmpty() && !line.overflowed) {
            line.owner = message.core;
            queue(2, message.core).add(new Message("E", message.line, 4, line.value));
        } else {
            line.sharers.add(message.core);
            if (line.sharers.size() > 2 && !line.overflowed) {
                line.overflowed = true;
                counters[9]++;
            }
            queue(2, message.core).add(new Message("S", message.line, 4, line.value));
        }
    }

    private void forward(int core, String kind, Message request) {
        counters[kind.equals("KILL") ? 4 : 5]++;
        queue(1, core).add(new Message(kind, request.line, 4, null));
        home[request.line].busy = request;
        home[request.line].due++;
    }

    private void grantWrite(Message message) {
        AtHome line = home[message.line];
        line.owner = message.core;
        line.sharers.clear();
        line.overflowed = false;
        queue(2, message.core).add(new Message("M", message.line, 4, line.value));
    }

    private void answer(Message message) {
        AtHome line = home[message.line];
        if (message.value != null) {
            line.value = message.value;
        }
        line.due--;
        if (line.due > 0) {
            return;
        }
        Message request = line.busy;
        line.busy = null;
        if (request.kind.equals("WRITE")) {
            grantWrite(request);
        } else {
            line.sharers.clear();
            line.sharers.add(line.owner);
            line.sharers.add(request.core);
            line.owner = null;
            queue(2, request.core).add(new Message("S", request.line, 4, line.value));
        }
        while (line.busy == null && !line.row.isEmpty()) {
            request(line.row.removeFirst());
        }
    }

    private void coreGets(int core, Message message) {
        Cpu cpu = cpus[core];
        Held held = cpu.held(message.line);
        switch (message.kind) {
            case "DONE" -> cpu.leaving.remove(message.line);
            case "KILL" -> {
                meetTransaction(cpu, message);
                if (held != null && held.state.equals("S")) {
                    cpu.drop(message.line);
                } else if (held != null && held.state.equals("WR")) {
                    held.killed = true;
                }
                queue(2, 4).add(new Message("REPLY", message.line, core, null));
            }
            case "FETCH", "TAKE" -> {
                meetTransaction(cpu, message);
                giveUp(core, message.line, message.kind);
            }
            default -> {
                cpu.use(message.line);
                held.state = message.kind;
                held.value = message.value;
                if (message.kind.equals("S") && held.killed) {
                    cpu.drop(message.line);
                }
                if (held.later != null) {
                    String later = held.later;
                    held.later = null;
                    giveUp(core, message.line, later);
                }
                held.killed = false;
            }
        }
    }

    private static void meetTransaction(Cpu cpu, Message message) {
        if (cpu.tx != null && (cpu.tx.stores.containsKey(message.line)
                || !message.kind.equals("FETCH") && cpu.tx.loaded.contains(message.line))) {
            cpu.tx.broken = true;
        }
    }

    private void giveUp(int core, int line, String kind) {
        Cpu cpu = cpus[core];
        Held held = cpu.held(line);
        if (cpu.owns(line)) {
            queue(2, 4).add(new Message("REPLY", line, core, held.value));
            held.state = "S";
            if (kind.equals("TAKE")) {
                cpu.drop(line);
            }
        } else if (held != null && held.state.startsWith("W")) {
            held.later = kind;
        } else if (cpu.leaving.containsKey(line)) {
            queue(2, 4).add(new Message("REPLY", line, core, cpu.leaving.get(line)));
        }
    }

    // ---- what there is

    String stateOf(int core, int line) {
        if (wrongCoreOrLine(core, line) != null) {
            return "B";
        }
        Held held = cpus[core].held(line);
        int state = held == null ? 0 : List.of("", "S", "E", "M", "WR", "WW").indexOf(held.state);
        return "" + (state + (cpus[core].leaving.containsKey(line) ? 10 : 0));
    }

    String valueIn(int core, int line) {
        if (wrongCoreOrLine(core, line) != null) {
            return "B";
        }
        Held held = cpus[core].held(line);
        return held == null || held.state.startsWith("W") ? "-1" : "" + held.value;
    }

    String home(int line) {
        return isIn(line, 0, 15) ? "" + home[line].value : "B";
    }

    String owner(int line) {
        return !isIn(line, 0, 15) ? "B" : home[line].owner == null ? "-1" : "" + home[line].owner;
    }

    String sharers(int line) {
        if (!isIn(line, 0, 15)) {
            return "B";
        }
        int set = 0;
        for (int core : home[line].sharers) {
            set += 1 << core;
        }
        return "" + (home[line].overflowed ? 15 : set);
    }

    String waiting(int line) {
        return isIn(line, 0, 15) ? "" + (home[line].row.size() + (home[line].busy == null ? 0 : 1)) : "B";
    }

    String truth(int line) {
        if (!isIn(line, 0, 15)) {
            return "B";
        }
        Integer owner = home[line].owner;
        if (owner != null && cpus[owner].owns(line)) {
            return "" + cpus[owner].held(line).value;
        }
        if (owner != null && cpus[owner].leaving.containsKey(line)) {
            return "" + cpus[owner].leaving.get(line);
        }
        if (owner != null) {
            for (Message message : queue(2, 4)) {
                if (message.line == line && message.value != null) {
                    return "" + message.value;
                }
            }
        }
        return "" + home[line].value;
    }

    String isCoherent() {
        for (int line = 0; line < 16; line++) {
            StringBuilder states = new StringBuilder();
            TreeSet<Integer> values = new TreeSet<>();
            for (Cpu cpu : cpus) {
                Held held = cpu.held(line);
                if (held != null && held.state.length() == 1) {
                    states.append(held.state);
                    if (!held.state.equals("M")) {
                        values.add(held.value);
                    }
                }
            }
            boolean hasWriter = states.indexOf("E") >= 0 || states.indexOf("M") >= 0;
            if (hasWriter && states.length() > 1 || values.size() > 1) {
                return "false";
            }
        }
        return "true";
    }

    String counter(int which) {
        return isIn(which, 0, 9) ? "" + counters[which] : "A";
    }
}
