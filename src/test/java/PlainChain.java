import java.util.ArrayList;
import java.util.List;
import java.util.TreeMap;
import java.util.TreeSet;

/** The document, told once more in the plainest way, with no thought of speed: ModelTest compares it with StakeChain. */
final class PlainChain {
    static final class State {
        int[] balance = new int[200];
        TreeMap<Integer, Integer> bonds = new TreeMap<>();
        List<int[]> returns = new ArrayList<>();
        TreeSet<Integer> jailed = new TreeSet<>();
        int[] proved = new int[16];
        int burnt;

        State copy() {
            State s = new State();
            s.balance = balance.clone();
            s.bonds.putAll(bonds);
            s.returns.addAll(returns);
            s.jailed.addAll(jailed);
            s.proved = proved.clone();
            s.burnt = burnt;
            return s;
        }

        int[] powers() {
            int[] p = new int[16];
            bonds.forEach((k, v) -> p[k % 16] += jailed.contains(k % 16) ? 0 : v);
            return p;
        }
    }

    record Tx(int kind, int a, int b, int v) { }

    record Msg(int kind, int node, int height, int round, int block, int before) { }

    record Bl(int height, int parent, int proposer, List<Integer> txs, int[] claim, State state) { }

    record Rec(Msg msg, int round, int step, int lock, int lockRound, int cand, int candRound) { }

    static final class Node {
        int last, round, step;
        int lock = -1, lockRound = -1, cand = -1, candRound = -1;
        boolean once, faulty, down;
        List<Integer> knows = new ArrayList<>();
        List<Rec> log = new ArrayList<>();
        int torn, fails = 13;
        boolean lastSent = true;
    }

    final List<Tx> txs = new ArrayList<>();
    final List<Msg> msgs = new ArrayList<>();
    final List<Bl> blocks = new ArrayList<>();
    final Node[] nodes = new Node[16];
    int trusted;
    int looks;

    PlainChain() {
        State s = new State();
        java.util.Arrays.fill(s.balance, 1000);
        for (int n = 0; n < 16; n++) s.bonds.put(n * 16 + n, 100);
        blocks.add(new Bl(0, -1, -1, List.of(), s.powers(), s));
        for (int n = 0; n < 16; n++) nodes[n] = new Node();
        for (int n = 0; n < 16; n++) { begin(n, 0); work(n); }
    }

    // ledger

    /** The STATE behind the TRANSACTION, or null if it is not VALID. */
    State done(State before, Tx t, int p, int height) {
        State s = before.copy();
        if (s.balance[t.a] < 1) return null;
        s.balance[t.a]--;
        s.balance[p]++;
        int key = t.a * 16 + t.b;
        switch (t.kind) {
            case 0:
                if (s.balance[t.a] < t.v) return null;
                s.balance[t.a] -= t.v;
                s.balance[t.b] += t.v;
                return s;
            case 1:
                if (s.balance[t.a] < t.v) return null;
                s.balance[t.a] -= t.v;
                s.bonds.merge(key, t.v, Integer::sum);
                return s.bonds.size() > 96 ? null : s;
            case 2:
                if (s.bonds.getOrDefault(key, 0) < t.v) return null;
                s.bonds.merge(key, -t.v, Integer::sum);
                s.bonds.remove(key, 0);
                s.returns.add(new int[] {t.a, t.v, height + 4});
                return s.returns.size() > 32 ? null : s;
            case 3:
                return s.jailed.remove(t.b) ? s : null;
            default:
                Msg x = msgs.get(t.b), y = msgs.get(t.v);
                if (x.kind == 0 || x.kind != y.kind || x.node != y.node || x.height != y.height || x.round != y.round
                        || x.block == y.block || x.height > height || x.height <= s.proved[x.node]) return null;
                s.proved[x.node] = x.height;
                for (Integer k : new ArrayList<>(s.bonds.keySet())) {
                    if (k % 16 == x.node) {
                        s.burnt += s.bonds.get(k) / 4;
                        s.bonds.put(k, s.bonds.get(k) - s.bonds.get(k) / 4);
                    }
                }
                s.jailed.add(x.node);
                return s;
        }
    }

    State opened(int parent) {
        State s = blocks.get(parent).state.copy();
        int height = blocks.get(parent).height + 1;
        for (int[] r : new ArrayList<>(s.returns)) {
            if (r[2] <= height) { s.balance[r[0]] += r[1]; s.returns.remove(r); }
        }
        return s;
    }

    List<Integer> chain(int b) {
        List<Integer> c = new ArrayList<>();
        for (int x = b; x != -1; x = blocks.get(x).parent) c.add(x);
        return c;
    }

    boolean stands(int t, int b) {
        for (int x : chain(b)) if (blocks.get(x).txs.contains(t)) return true;
        return false;
    }

    int make(int parent, int proposer, List<Integer> list, int[] claim) {
        Bl up = blocks.get(parent);
        State s = null;
        if (up.state != null && java.util.Arrays.equals(claim, up.state.powers())) {
            s = opened(parent);
            for (int i = 0; i < list.size() && s != null; i++) {
                int t = list.get(i);
                s = stands(t, parent) || list.subList(0, i).contains(t) ? null : done(s, txs.get(t), proposer, up.height + 1);
            }
        }
        blocks.add(new Bl(up.height + 1, parent, proposer, list, claim, s));
        return blocks.size() - 1;
    }

    // nodes

    int height(int n) { return blocks.get(nodes[n].last).height + 1; }

    int[] set(int n) { return blocks.get(nodes[n].last).state.powers(); }

    static int total(int[] p) { int t = 0; for (int v : p) t += v; return t; }

    static int weight(int[] p, TreeSet<Integer> who) { int t = 0; for (int n : who) t += p[n]; return t; }

    boolean most(int n, TreeSet<Integer> who) { return 3 * weight(set(n), who) > 2 * total(set(n)); }

    boolean some(int n, TreeSet<Integer> who) { return 3 * weight(set(n), who) > total(set(n)); }

    int proposer(int n, int r) {
        int[] p = set(n);
        if (total(p) == 0) return -1;
        int rest = (131 * height(n) + 307 * r) % total(p);
        int k = 0;
        for (int sum = p[0]; sum <= rest; sum += p[k]) k++;
        return k;
    }

    boolean good(int n, int b) { return blocks.get(b).state != null && blocks.get(b).parent == nodes[n].last; }

    Msg proposal(int n, int r) {
        for (int m : nodes[n].knows) {
            Msg x = msgs.get(m);
            if (x.kind == 0 && x.height == height(n) && x.round == r && x.block != -1 && x.node == proposer(n, r)) return x;
        }
        return null;
    }

    /** Kind or block -2: any. */
    TreeSet<Integer> who(int n, int kind, int r, int block) {
        TreeSet<Integer> w = new TreeSet<>();
        for (int m : nodes[n].knows) {
            Msg x = msgs.get(m);
            if (x.height == height(n) && x.round == r && (kind == -2 || x.kind == kind) && (block == -2 || x.block == block)) w.add(x.node);
        }
        return w;
    }

    void begin(int n, int q) {
        Node x = nodes[n];
        if (q > 31) return;
        x.round = q;
        x.step = 0;
        x.once = false;
        if (height(n) > 120 || proposer(n, q) != n || msgs.size() >= 6000) return;
        if (x.cand != -1) {
            send(n, 0, x.cand, x.candRound, 0);
        } else if (blocks.size() < 300) {
            List<Integer> list = new ArrayList<>();
            State s = opened(x.last);
            for (int t = 0; t < txs.size() && list.size() < 12; t++) {
                State next = stands(t, x.last) ? null : done(s, txs.get(t), n, height(n));
                if (next != null) { s = next; list.add(t); }
            }
            send(n, 0, make(x.last, n, list, set(n)), -1, 0);
        }
    }

    void send(int n, int kind, int block, int before, int stepBehind) {
        Node x = nodes[n];
        if (msgs.size() < 6000) {
            Msg m = new Msg(kind, n, height(n), x.round, block, before);
            Rec r = new Rec(m, x.round, stepBehind, x.lock, x.lockRound, x.cand, x.candRound);
            if (x.fails < 12) {
                x.torn = x.fails;
            } else {
                x.log.add(r);
                x.lastSent = x.fails == 13;
            }
            if (x.fails < 13) {
                x.fails = 13;
                x.down = true;
                x.knows.clear();
            } else {
                x.knows.add(msgs.size());
                msgs.add(m);
            }
        }
        x.step = stepBehind;
    }

    void adopt(int n, int b) {
        Node x = nodes[n];
        x.last = b;
        x.lock = x.lockRound = x.cand = x.candRound = -1;
        x.log.clear();
        begin(n, 0);
    }

    void work(int n) {
        while (!nodes[n].faulty && !nodes[n].down && height(n) <= 120 && one(n)) { }
    }

    boolean one(int n) {
        Node x = nodes[n];
        for (int q = 0; q < 32; q++) {
            Msg p = proposal(n, q);
            if (p != null && good(n, p.block) && most(n, who(n, 2, q, p.block))) { adopt(n, p.block); return true; }
        }
        for (int q = 31; q > x.round; q--) {
            if (some(n, who(n, -2, q, -2))) { begin(n, q); return true; }
        }
        Msg p = proposal(n, x.round);
        if (x.step == 0 && p != null && p.before == -1) {
            send(n, 1, good(n, p.block) && (x.lock == -1 || x.lock == p.block) ? p.block : -1, -1, 1);
            return true;
        }
        if (x.step == 0 && p != null && p.before >= 0 && p.before < x.round && most(n, who(n, 1, p.before, p.block))) {
            boolean ok = good(n, p.block) && (x.lock == -1 || x.lock == p.block || x.lockRound <= p.before);
            send(n, 1, ok ? p.block : -1, -1, 1);
            return true;
        }
        if (x.step > 0 && !x.once && p != null && good(n, p.block) && most(n, who(n, 1, x.round, p.block))) {
            x.once = true;
            if (x.step == 1) {
                x.lock = p.block;
                x.lockRound = x.round;
                send(n, 2, p.block, -1, 2);
            }
            x.cand = p.block;
            x.candRound = x.round;
            return true;
        }
        if (x.step == 1 && most(n, who(n, 1, x.round, -1))) { send(n, 2, -1, -1, 2); return true; }
        return false;
    }

    // the face

    static void range(boolean ok) { if (!ok) throw new IndexOutOfBoundsException(); }

    static void fit(boolean ok) { if (!ok) throw new IllegalArgumentException(); }

    static void allow(boolean ok) { if (!ok) throw new IllegalStateException(); }

    static boolean in(int v, int low, int high) { return v >= low && v <= high; }

    boolean isMsg(int m) { return in(m, 0, msgs.size() - 1); }

    boolean isBlock(int b) { return in(b, 0, blocks.size() - 1); }

    public int submit(int kind, int a, int b, int v) {
        fit(in(kind, 0, 4) && in(a, 0, 199));
        fit(kind != 0 || in(b, 0, 199));
        fit(!in(kind, 1, 3) || in(b, 0, 15));
        fit(kind > 2 || in(v, 1, 1000000));
        fit(kind != 4 || isMsg(b) && isMsg(v));
        allow(txs.size() < 1500);
        txs.add(new Tx(kind, a, b, v));
        return txs.size() - 1;
    }

    public int fault(int n) {
        range(in(n, 0, 15));
        nodes[n].faulty = true;
        nodes[n].down = false;
        return count(3);
    }

    public int deliver(int m, int n) {
        range(isMsg(m) && in(n, 0, 15));
        int old = msgs.size();
        if (!nodes[n].down && !nodes[n].knows.contains(m)) {
            nodes[n].knows.add(m);
            work(n);
        }
        return msgs.size() - old;
    }

    public int spread(int m, int many, int bits) {
        fit(in(many, 1, 100));
        range(in(m, 0, msgs.size()));
        int i = 0;
        for (; i < many && m + i < msgs.size(); i++) {
            for (int n = 0; n < 16; n++) if ((bits & 1 << n) != 0) deliver(m + i, n);
        }
        return i;
    }

    public int expire(int n) {
        range(in(n, 0, 15));
        Node x = nodes[n];
        int old = msgs.size();
        if (x.faulty || x.down || height(n) > 120) return 0;
        if (x.step == 0) send(n, 1, -1, -1, 1);
        else if (x.step == 1 && most(n, who(n, 1, x.round, -2))) send(n, 2, -1, -1, 2);
        else if (x.step == 2 && most(n, who(n, 2, x.round, -2))) begin(n, x.round + 1);
        work(n);
        return msgs.size() - old;
    }

    public int forge(int n, int kind, int height, int round, int block, int before) {
        fit(in(kind, 0, 2) && in(height, 1, 120) && in(round, 0, 31) && (block == -1 || isBlock(block)) && in(before, -1, kind == 0 ? 31 : -1));
        allow(in(n, 0, 15) && nodes[n].faulty && msgs.size() < 6000);
        nodes[n].knows.add(msgs.size());
        msgs.add(new Msg(kind, n, height, round, block, before));
        return msgs.size() - 1;
    }

    public int block(int n, int parent, int one, int two, int claim) {
        fit(isBlock(parent) && in(one, -1, txs.size() - 1) && in(two, -1, txs.size() - 1) && in(claim, -1, 65535));
        allow(in(n, 0, 15) && nodes[n].faulty && blocks.size() < 300);
        List<Integer> list = new ArrayList<>();
        if (one >= 0) list.add(one);
        if (two >= 0) list.add(two);
        Bl up = blocks.get(parent);
        int[] row = up.state == null ? up.claim.clone() : up.state.powers();
        for (int i = 0; i < 16 && claim >= 0; i++) row[i] = (claim & 1 << i) != 0 ? 100 : 0;
        return make(parent, n, list, row);
    }

    TreeSet<Integer> precommitters(int b, int r) {
        TreeSet<Integer> w = new TreeSet<>();
        for (Msg x : msgs) if (x.kind == 2 && x.block == b && x.round == r && x.height == blocks.get(b).height) w.add(x.node);
        return w;
    }

    public int sync(int n, int b) {
        range(in(n, 0, 15) && isBlock(b));
        boolean shown = false;
        for (int r = 0; r < 32; r++) shown |= most(n, precommitters(b, r));
        if (!nodes[n].faulty && !nodes[n].down && good(n, b) && shown) { adopt(n, b); work(n); }
        return height(n);
    }

    public void power(int n, int b) {
        range(in(n, 0, 15));
        fit(in(b, 0, 13));
        nodes[n].fails = b;
    }

    public int start(int n) {
        range(in(n, 0, 15));
        Node x = nodes[n];
        allow(x.down);
        x.down = false;
        x.torn = 0;
        int whole = x.log.size();
        if (whole == 0) {
            x.lock = x.lockRound = x.cand = x.candRound = -1;
            begin(n, 0);
        } else {
            Rec r = x.log.get(whole - 1);
            x.round = r.round;
            x.step = r.step;
            x.lock = r.lock;
            x.lockRound = r.lockRound;
            x.cand = r.cand;
            x.candRound = r.candRound;
            x.once = false;
            int known = x.lastSent ? whole : whole - 1;
            for (int i = 0; i < known; i++) {
                x.knows.add(msgs.indexOf(x.log.get(i).msg));
            }
            if (!x.lastSent && msgs.size() < 6000) {
                x.knows.add(msgs.size());
                msgs.add(r.msg);
                x.lastSent = true;
            }
        }
        work(n);
        return whole;
    }

    public int told(int n, int what) {
        range(in(n, 0, 15));
        fit(in(what, 0, 11));
        Node x = nodes[n];
        if (x.down && (what == 1 || what == 2 || in(what, 4, 7) || what == 10)) return -1;
        return new int[] {height(n), x.round, x.step, x.last, x.lock, x.lockRound, x.cand, x.candRound, x.knows.size(),
            x.faulty ? 1 : x.down ? 2 : 0, proposer(n, x.round), 12 * x.log.size() + x.torn}[what];
    }

    public int message(int m, int what) {
        range(isMsg(m));
        fit(in(what, 0, 5));
        Msg x = msgs.get(m);
        return new int[] {x.kind, x.node, x.height, x.round, x.block, x.before}[what];
    }

    public int of(int b, int what) {
        range(isBlock(b));
        fit(in(what, 0, 32));
        Bl x = blocks.get(b);
        if (what >= 17) return x.claim[what - 17];
        if (what >= 5) return what - 5 < x.txs.size() ? x.txs.get(what - 5) : -1;
        return new int[] {x.height, x.parent, x.proposer, x.state != null ? 1 : 0, x.txs.size()}[what];
    }

    public int account(int b, int a, int what) {
        range(isBlock(b) && in(a, 0, 199));
        State s = blocks.get(b).state;
        allow(s != null);
        fit(in(what, 0, 17));
        if (what == 0) return s.balance[a];
        if (what < 17) return s.bonds.getOrDefault(a * 16 + what - 1, 0);
        return s.returns.stream().filter(r -> r[0] == a).mapToInt(r -> r[1]).sum();
    }

    public int sum(int b, int what) {
        range(isBlock(b));
        State s = blocks.get(b).state;
        allow(s != null);
        fit(in(what, 0, 20));
        if (what < 16) return s.powers()[what];
        if (what == 16) return s.jailed.stream().mapToInt(n -> 1 << n).sum();
        if (what == 17) return s.burnt;
        if (what == 18) return s.returns.size();
        if (what == 19) return s.bonds.size();
        return s.burnt + total(s.balance) + s.bonds.values().stream().mapToInt(v -> v).sum() + s.returns.stream().mapToInt(r -> r[1]).sum();
    }

    boolean claimed(int b, int r) {
        int[] c = blocks.get(b).claim;
        return 3 * weight(c, precommitters(b, r)) > 2 * total(c);
    }

    boolean look(int b) {
        looks++;
        int above = blocks.get(b).height - blocks.get(trusted).height;
        State s = blocks.get(trusted).state;
        int[] p = s == null ? new int[16] : s.powers();
        if (!in(above, 1, 40)) return false;
        if (above == 1 && !(blocks.get(b).parent == trusted && java.util.Arrays.equals(blocks.get(b).claim, p))) return false;
        for (int r = 0; r < 32; r++) {
            if (claimed(b, r) && 3 * weight(p, precommitters(b, r)) > total(p)) { trusted = b; return true; }
        }
        return false;
    }

    boolean reach(int b) {
        boolean certified = false;
        for (int r = 0; r < 32; r++) certified |= claimed(b, r);
        while (!look(b)) {
            int low = blocks.get(trusted).height, high = blocks.get(b).height;
            if (!certified || high <= low + 1) return false;
            int half = b;
            while (blocks.get(half).height > (low + high) / 2) half = blocks.get(half).parent;
            if (!reach(half)) return false;
        }
        return true;
    }

    public int follow(int b) {
        range(isBlock(b));
        looks = 0;
        return reach(b) ? looks : -looks;
    }

    public int count(int what) {
        fit(in(what, 0, 8));
        int c = 0;
        if (what == 0) return txs.size();
        if (what == 1) return msgs.size();
        if (what == 2) return blocks.size();
        if (what == 4) return trusted;
        for (int i = 0; i < 16; i++) {
            if (what == 3) c += nodes[i].faulty ? 1 : 0;
            if (nodes[i].faulty) continue;
            int last = nodes[i].last;
            if (what == 7) c = Math.max(c, blocks.get(last).height);
            if (what == 6 && !chain(trusted).contains(last) && !chain(last).contains(trusted)) c++;
            for (int j = i + 1; j < 16 && what == 5; j++) {
                int other = nodes[j].last;
                if (!nodes[j].faulty && !chain(other).contains(last) && !chain(last).contains(other)) c++;
            }
        }
        return c;
    }
}
