import java.util.Arrays;

/**
 * A chain that its stakeholders run: sixteen nodes agree in rounds, with locks, on blocks of a
 * ledger whose bonds make the nodes' power. Words in capitals in the comments are the document's.
 */
public final class StakeChain {
    private static final int NODES = 16;
    private static final int ACCOUNTS = 200;
    private static final int ROUNDS = 32;
    private static final int LAST_HEIGHT = 120;
    private static final int MAX_TRANSACTIONS = 1500;
    private static final int MAX_MESSAGES = 6000;
    private static final int MAX_BLOCKS = 300;
    private static final int MAX_IN_BLOCK = 12;
    private static final int MAX_BONDS = 96;
    private static final int MAX_RETURNS = 32;
    private static final int MAX_AMOUNT = 1000000;
    private static final int MAX_SPREAD = 100;
    private static final int ALL_NODES = 65535;
    private static final int RETURN_HEIGHTS = 4;
    private static final int CLIENT_REACH = 40;
    private static final int RECORD_BYTES = 12;
    private static final int NO_FAILURE = 13;
    /** Of each ROUND of a HEIGHT a NODE sends at most one MESSAGE of each KIND. */
    private static final int MAX_RECORDS = 3 * ROUNDS;
    /** Far above 120 HEIGHTS of 32 ROUNDS with some six deeds each. */
    private static final int MAX_DEEDS = 100000;

    private static final int NONE = -1;
    private static final int ANY = -2;

    private static final int PAY = 0;
    private static final int BOND = 1;
    private static final int UNBOND = 2;
    private static final int FREE = 3;
    private static final int PROVE = 4;

    private static final int PROPOSAL = 0;
    private static final int PREVOTE = 1;
    private static final int PRECOMMIT = 2;

    private static final int PROPOSES = 0;
    private static final int PREVOTED = 1;
    private static final int PRECOMMITTED = 2;

    private final Ledger ledger;
    private final Post post;
    private final Node[] nodes;
    private final Client client;

    public StakeChain() {
        ledger = new Ledger();
        post = new Post();
        nodes = new Node[NODES];
        client = new Client(ledger.genesis());
        for (int n = 0; n < NODES; n++) {
            nodes[n] = new Node(n, ledger.genesis());
        }
        for (int n = 0; n < NODES; n++) {
            nodes[n].enter(0);
            doAll(nodes[n]);
        }
    }

    public int submit(int kind, int a, int b, int v) throws IllegalArgumentException, IllegalStateException {
        if (kind < PAY || kind > PROVE || a < 0 || a >= ACCOUNTS) {
            throw new IllegalArgumentException("no such kind or account");
        }
        if (kind == PROVE) {
            if (post.get(b) == null || post.get(v) == null) {
                throw new IllegalArgumentException("no such message");
            }
        } else if (b < 0 || b >= (kind == PAY ? ACCOUNTS : NODES)) {
            throw new IllegalArgumentException("no such account or node");
        } else if (kind != FREE && (v < 1 || v > MAX_AMOUNT)) {
            throw new IllegalArgumentException("no such amount");
        }
        if (ledger.transactionCount >= MAX_TRANSACTIONS) {
            throw new IllegalStateException("there are 1500 transactions");
        }
        if (kind == PROVE) {
            return ledger.addProof(a, post.get(b), post.get(v));
        }
        return ledger.addTransaction(new Transaction(kind, a, b, v, NONE, 0));
    }

    public int fault(int n) throws IndexOutOfBoundsException {
        if (!isNode(n)) {
            throw new IndexOutOfBoundsException("no such node");
        }
        nodes[n].faulty = true;
        nodes[n].down = false;
        return faultyNodes();
    }

    public int deliver(int m, int n) throws IndexOutOfBoundsException {
        Message x = post.get(m);
        if (x == null || !isNode(n)) {
            throw new IndexOutOfBoundsException("no such message or node");
        }
        int before = post.size;
        if (comesAnew(x, nodes[n])) {
            doAll(nodes[n]);
        }
        return post.size - before;
    }

    public int spread(int m, int many, int nodes) throws IllegalArgumentException, IndexOutOfBoundsException {
        if (many < 1 || many > MAX_SPREAD) {
            throw new IllegalArgumentException("many is not 1 to 100");
        }
        if (m < 0 || m > post.size) {
            throw new IndexOutOfBoundsException("no such message");
        }
        int came = 0;
        while (came < many && m + came < post.size) {
            Message x = post.get(m + came);
            for (int n = 0; n < NODES; n++) {
                if ((nodes >>> n & 1) == 1 && comesAnew(x, this.nodes[n])) {
                    doAll(this.nodes[n]);
                }
            }
            came++;
        }
        return came;
    }

    public int expire(int n) throws IndexOutOfBoundsException {
        if (!isNode(n)) {
            throw new IndexOutOfBoundsException("no such node");
        }
        Node x = nodes[n];
        int before = post.size;
        if (x.acts()) {
            endWaiting(x);
            doAll(x);
        }
        return post.size - before;
    }

    public int forge(int n, int kind, int height, int round, int block, int before)
            throws IllegalArgumentException, IllegalStateException {
        if (kind < PROPOSAL || kind > PRECOMMIT || height < 1 || height > LAST_HEIGHT || round < 0 || round >= ROUNDS) {
            throw new IllegalArgumentException("no such kind, height or round");
        }
        if (block != NONE && ledger.get(block) == null) {
            throw new IllegalArgumentException("no such block");
        }
        if (before < NONE || before >= ROUNDS || kind != PROPOSAL && before != NONE) {
            throw new IllegalArgumentException("no such round before");
        }
        if (!isFaulty(n)) {
            throw new IllegalStateException("no faulty node");
        }
        Message x = post.add(kind, n, height, round, block, before);
        if (x == null) {
            throw new IllegalStateException("nothing more is sent");
        }
        nodes[n].learn(x, post.firstOf(height, round));
        return x.number;
    }

    public int block(int n, int parent, int one, int two, int claim)
            throws IllegalArgumentException, IllegalStateException {
        Block above = ledger.get(parent);
        if (above == null) {
            throw new IllegalArgumentException("no such parent");
        }
        if (!ledger.isTransactionOrNone(one) || !ledger.isTransactionOrNone(two)) {
            throw new IllegalArgumentException("no such transaction");
        }
        if (claim < NONE || claim > ALL_NODES) {
            throw new IllegalArgumentException("no such claim");
        }
        if (!isFaulty(n)) {
            throw new IllegalStateException("no faulty node");
        }
        if (ledger.isFull()) {
            throw new IllegalStateException("there are 300 blocks");
        }
        return ledger.addGiven(above, n, rowOf(one, two), claim);
    }

    public int sync(int n, int b) throws IndexOutOfBoundsException {
        Block x = ledger.get(b);
        if (!isNode(n) || x == null) {
            throw new IndexOutOfBoundsException("no such node or block");
        }
        Node node = nodes[n];
        if (node.acts() && node.isGood(x) && isCertified(x, node)) {
            node.adopt(x);
            doAll(node);
        }
        return node.height();
    }

    public void power(int n, int b) throws IndexOutOfBoundsException, IllegalArgumentException {
        if (!isNode(n)) {
            throw new IndexOutOfBoundsException("no such node");
        }
        if (b < 0 || b > NO_FAILURE) {
            throw new IllegalArgumentException("b is not 0 to 13");
        }
        nodes[n].failAt = b;
    }

    public int start(int n) throws IndexOutOfBoundsException, IllegalStateException {
        if (!isNode(n)) {
            throw new IndexOutOfBoundsException("no such node");
        }
        Node x = nodes[n];
        if (!x.down) {
            throw new IllegalStateException("it is not down");
        }
        int whole = x.log.size;
        Entry end = x.log.end();
        x.down = false;
        x.log.torn = 0;
        if (end == null) {
            x.unlock();
            x.enter(0);
        } else {
            resume(x, end);
        }
        doAll(x);
        return whole;
    }

    public int told(int n, int what) throws IndexOutOfBoundsException, IllegalArgumentException {
        if (!isNode(n)) {
            throw new IndexOutOfBoundsException("no such node");
        }
        Node x = nodes[n];
        switch (what) {
            case 0: return x.height();
            case 1: return x.down ? NONE : x.round;
            case 2: return x.down ? NONE : x.step;
            case 3: return x.last.number;
            case 4: return x.down ? NONE : x.lock;
            case 5: return x.down ? NONE : x.lockRound;
            case 6: return x.down ? NONE : x.candidate;
            case 7: return x.down ? NONE : x.candidateRound;
            case 8: return x.known;
            case 9: return x.faulty ? 1 : x.down ? 2 : 0;
            case 10: return x.down ? NONE : x.proposerOf(x.round);
            case 11: return x.log.size * RECORD_BYTES + x.log.torn;
            default: throw new IllegalArgumentException("no such question");
        }
    }

    public int message(int m, int what) throws IndexOutOfBoundsException, IllegalArgumentException {
        Message x = post.get(m);
        if (x == null) {
            throw new IndexOutOfBoundsException("no such message");
        }
        switch (what) {
            case 0: return x.kind;
            case 1: return x.node;
            case 2: return x.height;
            case 3: return x.round;
            case 4: return x.block;
            case 5: return x.before;
            default: throw new IllegalArgumentException("no such question");
        }
    }

    public int of(int b, int what) throws IndexOutOfBoundsException, IllegalArgumentException {
        Block x = ledger.get(b);
        if (x == null) {
            throw new IndexOutOfBoundsException("no such block");
        }
        if (what < 0 || what > 32) {
            throw new IllegalArgumentException("no such question");
        }
        switch (what) {
            case 0: return x.height;
            case 1: return x.parent == null ? NONE : x.parent.number;
            case 2: return x.proposer;
            case 3: return x.state == null ? 0 : 1;
            case 4: return x.transactions.length;
            default: break;
        }
        if (what > 16) {
            return x.claim[what - 17];
        }
        return what - 5 < x.transactions.length ? x.transactions[what - 5] : NONE;
    }

    public int account(int b, int a, int what)
            throws IndexOutOfBoundsException, IllegalStateException, IllegalArgumentException {
        Block x = ledger.get(b);
        if (x == null || a < 0 || a >= ACCOUNTS) {
            throw new IndexOutOfBoundsException("no such block or account");
        }
        if (x.state == null) {
            throw new IllegalStateException("the block is not sound");
        }
        if (what < 0 || what > 17) {
            throw new IllegalArgumentException("no such question");
        }
        if (what == 0) {
            return x.state.balances[a];
        }
        return what == 17 ? x.state.returnsOf(a) : x.state.bondOf(a, what - 1);
    }

    public int sum(int b, int what) throws IndexOutOfBoundsException, IllegalStateException, IllegalArgumentException {
        Block x = ledger.get(b);
        if (x == null) {
            throw new IndexOutOfBoundsException("no such block");
        }
        if (x.state == null) {
            throw new IllegalStateException("the block is not sound");
        }
        if (what < 0 || what > 20) {
            throw new IllegalArgumentException("no such question");
        }
        switch (what) {
            case 16: return x.state.jailed;
            case 17: return x.state.burnt;
            case 18: return x.state.returns;
            case 19: return x.state.bonds;
            case 20: return x.state.everything();
            default: return x.state.powers[what];
        }
    }

    public int follow(int b) throws IndexOutOfBoundsException {
        Block x = ledger.get(b);
        if (x == null) {
            throw new IndexOutOfBoundsException("no such block");
        }
        return client.reach(x, post);
    }

    public int count(int what) throws IllegalArgumentException {
        switch (what) {
            case 0: return ledger.transactionCount;
            case 1: return post.size;
            case 2: return ledger.blockCount;
            case 3: return faultyNodes();
            case 4: return client.trusted.number;
            case 5: return splitPairs();
            case 6: return nodesOffTheClient();
            case 7: return greatestHeight();
            case 8: return doubleMessages();
            default: throw new IllegalArgumentException("no such question");
        }
    }

    // ---- what a NODE does

    /** Lets m come to x; answers whether x may have something to do by that. */
    private boolean comesAnew(Message m, Node x) {
        if (m == null || x.down || x.hasHeard(m)) {
            return false;
        }
        x.learn(m, post.firstOf(m.height, m.round));
        // The rules look at MESSAGES of the NODE's HEIGHT alone, and it had done all that it could.
        return m.height == x.height();
    }

    /** Does, as long as one can be done, the first of: proposing in a new ROUND, and the rules (a) to (f). */
    private void doAll(Node x) {
        boolean done = true;
        for (int deeds = 0; done && deeds < MAX_DEEDS && x.acts(); deeds++) {
            done = propose(x) || decide(x) || passOn(x) || prevote(x) || renewCandidate(x) || precommitForNone(x);
        }
    }

    /** The end of a ROUND's beginning; answers whether the ROUND was new. */
    private boolean propose(Node x) {
        if (!x.justEntered) {
            return false;
        }
        x.justEntered = false;
        if (!post.isFull() && x.proposerOf(x.round) == x.number) {
            int block = x.candidate != NONE ? x.candidate : ledger.addBest(x.last, x.number);
            if (block != NONE) {
                // Without a CANDIDATE its ROUND is -1, as is due with a new BLOCK.
                send(x, PROPOSAL, block, x.candidateRound);
            }
        }
        return true;
    }

    /** Rule (a). */
    private boolean decide(Node x) {
        int rounds = post.roundsOf(x.height());
        for (int q = 0; q < ROUNDS; q++) {
            Message proposal = (rounds >>> q & 1) == 1 ? proposalOf(x, q) : null;
            if (proposal != null) {
                Block b = ledger.get(proposal.block);
                if (x.isGood(b) && x.isMost(heardFrom(x, PRECOMMIT, q, proposal.block))) {
                    x.adopt(b);
                    return true;
                }
            }
        }
        return false;
    }

    /** Rule (b). */
    private boolean passOn(Node x) {
        int rounds = post.roundsOf(x.height());
        for (int q = ROUNDS - 1; q > x.round; q--) {
            if ((rounds >>> q & 1) == 1 && x.isSome(heardFrom(x, ANY, q, ANY))) {
                x.enter(q);
                return true;
            }
        }
        return false;
    }

    /** Rules (c) and (d). */
    private boolean prevote(Node x) {
        Message proposal = x.step == PROPOSES ? proposalOf(x, x.round) : null;
        if (proposal == null) {
            return false;
        }
        boolean free = x.lock == NONE || x.lock == proposal.block;
        int before = proposal.before;
        if (before != NONE) {
            if (before >= x.round || !x.isMost(heardFrom(x, PREVOTE, before, proposal.block))) {
                return false;
            }
            free = free || x.lockRound <= before;
        }
        x.step = PREVOTED;
        send(x, PREVOTE, free && x.isGood(ledger.get(proposal.block)) ? proposal.block : NONE, NONE);
        return true;
    }

    /** Rule (e). */
    private boolean renewCandidate(Node x) {
        Message proposal = x.step == PROPOSES || x.renewed ? null : proposalOf(x, x.round);
        if (proposal == null || !x.isGood(ledger.get(proposal.block))
                || !x.isMost(heardFrom(x, PREVOTE, x.round, proposal.block))) {
            return false;
        }
        x.renewed = true;
        if (x.step == PREVOTED) {
            x.lock = proposal.block;
            x.lockRound = x.round;
            x.step = PRECOMMITTED;
            send(x, PRECOMMIT, proposal.block, NONE);
        }
        // Behind the sending, as the document has it: the RECORD of this precommit has the CANDIDATE before it.
        x.candidate = proposal.block;
        x.candidateRound = x.round;
        return true;
    }

    /** Rule (f). */
    private boolean precommitForNone(Node x) {
        if (x.step != PREVOTED || !x.isMost(heardFrom(x, PREVOTE, x.round, NONE))) {
            return false;
        }
        x.step = PRECOMMITTED;
        send(x, PRECOMMIT, NONE, NONE);
        return true;
    }

    private void endWaiting(Node x) {
        if (x.step == PROPOSES) {
            x.step = PREVOTED;
            send(x, PREVOTE, NONE, NONE);
        } else if (x.step == PREVOTED) {
            if (x.isMost(heardFrom(x, PREVOTE, x.round, ANY))) {
                x.step = PRECOMMITTED;
                send(x, PRECOMMIT, NONE, NONE);
            }
        } else if (x.round + 1 < ROUNDS && x.isMost(heardFrom(x, PRECOMMIT, x.round, ANY))) {
            x.enter(x.round + 1);
        }
    }

    /** Writes the RECORD first, so ROUND, STEP and LOCK must already be as they are behind the MESSAGE. */
    private void send(Node x, int kind, int block, int before) {
        if (post.isFull()) {
            return;
        }
        Entry entry = new Entry(x, kind, block, before);
        if (x.failAt <= RECORD_BYTES) {
            x.log.write(entry, x.failAt);
            x.fail();
            return;
        }
        x.log.write(entry, RECORD_BYTES);
        sendRecorded(x, entry);
    }

    private void sendRecorded(Node x, Entry entry) {
        Message m = post.add(entry.kind, x.number, x.height(), entry.round, entry.block, entry.before);
        if (m != null) {
            entry.sent = m;
            x.learn(m, post.firstOf(m.height, m.round));
        }
    }

    /** Takes up the work where the last RECORD left it. */
    private void resume(Node x, Entry end) {
        for (int i = 0; i < x.log.size; i++) {
            Message m = x.log.sentAt(i);
            if (m != null) {
                x.learn(m, post.firstOf(m.height, m.round));
            }
        }
        x.restore(end);
        if (end.sent == null) {
            sendRecorded(x, end);
        }
    }

    // ---- what a NODE sees

    /** The PROPOSAL of a ROUND, or null. */
    private Message proposalOf(Node x, int round) {
        int proposer = x.proposerOf(round);
        for (Message m = post.firstOf(x.height(), round); m != null; m = m.next) {
            if (m.node == proposer && x.heardAsFirst(m)) {
                return m;
            }
        }
        return null;
    }

    /** Bits of the NODES of which x KNOWS a MESSAGE of its HEIGHT with this ROUND, KIND and BLOCK. */
    private int heardFrom(Node x, int kind, int round, int block) {
        int bits = 0;
        for (Message m = post.firstOf(x.height(), round); m != null; m = m.next) {
            if ((kind == ANY || m.kind == kind) && (block == ANY || m.block == block) && x.hasHeard(m)) {
                bits |= 1 << m.node;
            }
        }
        return bits;
    }

    private boolean isCertified(Block b, Node x) {
        for (int q = 0; q < ROUNDS; q++) {
            if (x.isMost(post.precommittersOf(b, q))) {
                return true;
            }
        }
        return false;
    }

    // ---- questions about all

    private static boolean isNode(int n) {
        return n >= 0 && n < NODES;
    }

    private boolean isFaulty(int n) {
        return isNode(n) && nodes[n].faulty;
    }

    private int faultyNodes() {
        int many = 0;
        for (int n = 0; n < NODES; n++) {
            if (nodes[n].faulty) {
                many++;
            }
        }
        return many;
    }

    private int splitPairs() {
        int pairs = 0;
        for (int i = 0; i < NODES; i++) {
            for (int j = i + 1; j < NODES; j++) {
                if (!nodes[i].faulty && !nodes[j].faulty && !nodes[i].last.isInLineWith(nodes[j].last)) {
                    pairs++;
                }
            }
        }
        return pairs;
    }

    private int nodesOffTheClient() {
        int many = 0;
        for (int n = 0; n < NODES; n++) {
            if (!nodes[n].faulty && !nodes[n].last.isInLineWith(client.trusted)) {
                many++;
            }
        }
        return many;
    }

    private int greatestHeight() {
        int greatest = 0;
        for (int n = 0; n < NODES; n++) {
            if (!nodes[n].faulty) {
                greatest = Math.max(greatest, nodes[n].last.height);
            }
        }
        return greatest;
    }

    private int doubleMessages() {
        int pairs = 0;
        for (int i = 0; i < post.size; i++) {
            Message m = post.get(i);
            if (m != null && !isFaulty(m.node)) {
                for (Message o = m.next; o != null; o = o.next) {
                    if (o.node == m.node && o.kind == m.kind && o.block != m.block) {
                        pairs++;
                    }
                }
            }
        }
        return pairs;
    }

    private static int[] rowOf(int one, int two) {
        int size = (one == NONE ? 0 : 1) + (two == NONE ? 0 : 1);
        int[] row = new int[size];
        if (one != NONE) {
            row[0] = one;
        }
        if (two != NONE) {
            row[size - 1] = two;
        }
        return row;
    }

    /** The amounts of a row of 16 that the NODES with these bits have together. */
    private static int weigh(int[] row, int bits) {
        int weight = 0;
        for (int n = 0; n < NODES; n++) {
            if ((bits >>> n & 1) == 1) {
                weight += row[n];
            }
        }
        return weight;
    }

    private static boolean isSameRow(int[] one, int[] two) {
        for (int n = 0; n < NODES; n++) {
            if (one[n] != two[n]) {
                return false;
            }
        }
        return true;
    }

    // ---- MESSAGES

    private static final class Message {
        final int number;
        final int kind;
        final int node;
        final int height;
        final int round;
        final int block;
        final int before;
        /** The next one sent of the same HEIGHT and ROUND. */
        Message next;

        Message(int number, int kind, int node, int height, int round, int block, int before) {
            this.number = number;
            this.kind = kind;
            this.node = node;
            this.height = height;
            this.round = round;
            this.block = block;
            this.before = before;
        }

        boolean isAgainst(Message other) {
            return kind != PROPOSAL && kind == other.kind && node == other.node && height == other.height
                    && round == other.round && block != other.block;
        }
    }

    /** All MESSAGES that were sent, by number, and in rows by HEIGHT and ROUND. */
    private static final class Post {
        final Message[] all = new Message[MAX_MESSAGES];
        final Message[] first = new Message[(LAST_HEIGHT + 1) * ROUNDS];
        final Message[] last = new Message[(LAST_HEIGHT + 1) * ROUNDS];
        /** Of each HEIGHT bits of the ROUNDS that have MESSAGES, so that empty ones are passed over. */
        final int[] rounds = new int[LAST_HEIGHT + 1];
        int size;

        boolean isFull() {
            return size >= MAX_MESSAGES;
        }

        Message get(int m) {
            return m < 0 || m >= size ? null : all[m];
        }

        Message firstOf(int height, int round) {
            if (height < 0 || height > LAST_HEIGHT || round < 0 || round >= ROUNDS) {
                return null;
            }
            return first[height * ROUNDS + round];
        }

        int roundsOf(int height) {
            return height < 0 || height > LAST_HEIGHT ? 0 : rounds[height];
        }

        /** Answers the new MESSAGE, or null if nothing more is sent. */
        Message add(int kind, int node, int height, int round, int block, int before) {
            if (size >= MAX_MESSAGES || height < 0 || height > LAST_HEIGHT || round < 0 || round >= ROUNDS) {
                return null;
            }
            Message m = new Message(size, kind, node, height, round, block, before);
            all[size] = m;
            size++;
            int place = height * ROUNDS + round;
            if (last[place] == null) {
                first[place] = m;
            } else {
                last[place].next = m;
            }
            last[place] = m;
            rounds[height] |= 1 << round;
            return m;
        }

        /** Bits of the NODES that sent a precommit for this BLOCK, of its HEIGHT, in this ROUND. */
        int precommittersOf(Block b, int round) {
            int bits = 0;
            for (Message m = firstOf(b.height, round); m != null; m = m.next) {
                if (m.kind == PRECOMMIT && m.block == b.number) {
                    bits |= 1 << m.node;
                }
            }
            return bits;
        }
    }

    // ---- LEDGER

    private static final class Transaction {
        final int kind;
        final int account;
        /** An ACCOUNT of a payment, else a NODE; none of a proof. */
        final int other;
        final int amount;
        /** The NODE against which there is proof, or none if the two MESSAGES prove nothing. */
        final int culprit;
        final int proofHeight;

        Transaction(int kind, int account, int other, int amount, int culprit, int proofHeight) {
            this.kind = kind;
            this.account = account;
            this.other = other;
            this.amount = amount;
            this.culprit = culprit;
            this.proofHeight = proofHeight;
        }
    }

    private static final class State {
        final int[] balances = new int[ACCOUNTS];
        final int[] bondAccounts = new int[MAX_BONDS];
        final int[] bondNodes = new int[MAX_BONDS];
        final int[] bondAmounts = new int[MAX_BONDS];
        int bonds;
        final int[] returnAccounts = new int[MAX_RETURNS];
        final int[] returnAmounts = new int[MAX_RETURNS];
        final int[] returnHeights = new int[MAX_RETURNS];
        int returns;
        /** Bits of the NODES that are JAILED. */
        int jailed;
        final int[] proved = new int[NODES];
        int burnt;
        /** Made by settle() when nothing more is done to the STATE. */
        final int[] powers = new int[NODES];
        int total;

        void beFirst() {
            Arrays.fill(balances, 1000);
            for (int n = 0; n < NODES; n++) {
                bondAccounts[n] = n;
                bondNodes[n] = n;
                bondAmounts[n] = 100;
            }
            bonds = NODES;
        }

        void beLike(State s) {
            System.arraycopy(s.balances, 0, balances, 0, ACCOUNTS);
            System.arraycopy(s.bondAccounts, 0, bondAccounts, 0, MAX_BONDS);
            System.arraycopy(s.bondNodes, 0, bondNodes, 0, MAX_BONDS);
            System.arraycopy(s.bondAmounts, 0, bondAmounts, 0, MAX_BONDS);
            bonds = s.bonds;
            System.arraycopy(s.returnAccounts, 0, returnAccounts, 0, MAX_RETURNS);
            System.arraycopy(s.returnAmounts, 0, returnAmounts, 0, MAX_RETURNS);
            System.arraycopy(s.returnHeights, 0, returnHeights, 0, MAX_RETURNS);
            returns = s.returns;
            jailed = s.jailed;
            System.arraycopy(s.proved, 0, proved, 0, NODES);
            burnt = s.burnt;
        }

        void giveBack(int height) {
            int kept = 0;
            for (int i = 0; i < returns; i++) {
                if (returnHeights[i] <= height) {
                    balances[returnAccounts[i]] += returnAmounts[i];
                } else {
                    returnAccounts[kept] = returnAccounts[i];
                    returnAmounts[kept] = returnAmounts[i];
                    returnHeights[kept] = returnHeights[i];
                    kept++;
                }
            }
            returns = kept;
        }

        /** Does t in a BLOCK of this PROPOSER and HEIGHT; answers false, and does nothing, if it is not VALID. */
        boolean perform(Transaction t, int proposer, int height) {
            int place = t.kind == BOND || t.kind == UNBOND ? placeOf(t.account, t.other) : NONE;
            if (!allows(t, place, proposer, height)) {
                return false;
            }
            balances[t.account] -= 1;
            balances[proposer] += 1;
            switch (t.kind) {
                case PAY:
                    balances[t.account] -= t.amount;
                    balances[t.other] += t.amount;
                    break;
                case BOND:
                    bond(t, place);
                    break;
                case UNBOND:
                    unbond(t, place, height + RETURN_HEIGHTS);
                    break;
                case FREE:
                    jailed &= ~(1 << t.other);
                    break;
                default:
                    punish(t.culprit, t.proofHeight);
                    break;
            }
            return true;
        }

        private boolean allows(Transaction t, int place, int proposer, int height) {
            if (balances[t.account] < 1) {
                return false;
            }
            // The fee has come to the PROPOSER before the amount is looked at.
            int left = t.account == proposer ? balances[t.account] : balances[t.account] - 1;
            switch (t.kind) {
                case PAY:
                    return left >= t.amount;
                case BOND:
                    return left >= t.amount && (place != NONE || bonds < MAX_BONDS);
                case UNBOND:
                    return place != NONE && bondAmounts[place] >= t.amount && returns < MAX_RETURNS;
                case FREE:
                    return (jailed >>> t.other & 1) == 1;
                default:
                    return t.culprit != NONE && t.proofHeight <= height && t.proofHeight > proved[t.culprit];
            }
        }

        private void bond(Transaction t, int place) {
            balances[t.account] -= t.amount;
            if (place != NONE) {
                bondAmounts[place] += t.amount;
                return;
            }
            bondAccounts[bonds] = t.account;
            bondNodes[bonds] = t.other;
            bondAmounts[bonds] = t.amount;
            bonds++;
        }

        private void unbond(Transaction t, int place, int due) {
            bondAmounts[place] -= t.amount;
            if (bondAmounts[place] == 0) {
                bonds--;
                bondAccounts[place] = bondAccounts[bonds];
                bondNodes[place] = bondNodes[bonds];
                bondAmounts[place] = bondAmounts[bonds];
            }
            returnAccounts[returns] = t.account;
            returnAmounts[returns] = t.amount;
            returnHeights[returns] = due;
            returns++;
        }

        private void punish(int node, int height) {
            proved[node] = height;
            for (int i = 0; i < bonds; i++) {
                if (bondNodes[i] == node) {
                    int quarter = bondAmounts[i] / 4;
                    bondAmounts[i] -= quarter;
                    burnt += quarter;
                }
            }
            jailed |= 1 << node;
        }

        private int placeOf(int account, int node) {
            for (int i = 0; i < bonds; i++) {
                if (bondAccounts[i] == account && bondNodes[i] == node) {
                    return i;
                }
            }
            return NONE;
        }

        void settle() {
            for (int i = 0; i < bonds; i++) {
                int node = bondNodes[i];
                if ((jailed >>> node & 1) == 0) {
                    powers[node] += bondAmounts[i];
                    total += bondAmounts[i];
                }
            }
        }

        boolean isMost(int bits) {
            return 3 * weigh(powers, bits) > 2 * total;
        }

        boolean isSome(int bits) {
            return 3 * weigh(powers, bits) > total;
        }

        int proposerOf(int height, int round) {
            if (total <= 0) {
                return NONE;
            }
            int mark = (131 * height + 307 * round) % total;
            int reached = 0;
            for (int n = 0; n < NODES; n++) {
                reached += powers[n];
                if (reached > mark) {
                    return n;
                }
            }
            return NONE;
        }

        int bondOf(int account, int node) {
            int place = placeOf(account, node);
            return place == NONE ? 0 : bondAmounts[place];
        }

        int returnsOf(int account) {
            int all = 0;
            for (int i = 0; i < returns; i++) {
                if (returnAccounts[i] == account) {
                    all += returnAmounts[i];
                }
            }
            return all;
        }

        int everything() {
            int all = burnt;
            for (int a = 0; a < ACCOUNTS; a++) {
                all += balances[a];
            }
            for (int i = 0; i < bonds; i++) {
                all += bondAmounts[i];
            }
            for (int i = 0; i < returns; i++) {
                all += returnAmounts[i];
            }
            return all;
        }
    }

    // ---- BLOCKS

    private static final class Block {
        final int number;
        final int height;
        final Block parent;
        final int proposer;
        final int[] transactions;
        final int[] claim;
        /** Null if the BLOCK is not SOUND. */
        final State state;

        Block(int number, Block parent, int proposer, int[] transactions, int[] claim, State state) {
            this.number = number;
            this.height = parent == null ? 0 : parent.height + 1;
            this.parent = parent;
            this.proposer = proposer;
            this.transactions = transactions;
            this.claim = claim;
            this.state = state;
        }

        /** The BLOCK of this HEIGHT in the CHAIN, or null above it. */
        Block inChainAt(int wanted) {
            for (Block b = this; b != null; b = b.parent) {
                if (b.height == wanted) {
                    return b;
                }
            }
            return null;
        }

        /** Whether one of the two is in the CHAIN of the other. */
        boolean isInLineWith(Block other) {
            Block low = height <= other.height ? this : other;
            Block high = height <= other.height ? other : this;
            Block met = high.inChainAt(low.height);
            return met != null && met.number == low.number;
        }
    }

    private static final class Ledger {
        final Block[] blocks = new Block[MAX_BLOCKS];
        int blockCount;
        final Transaction[] transactions = new Transaction[MAX_TRANSACTIONS];
        int transactionCount;
        /** TRANSACTIONS are tried on this STATE, so that only a SOUND BLOCK makes a new one. */
        final State trial = new State();
        final int[] picked = new int[MAX_IN_BLOCK];
        /** marks[t] == mark: TRANSACTION t already stands in the CHAIN that is looked at. */
        final int[] marks = new int[MAX_TRANSACTIONS];
        int mark;

        Ledger() {
            State first = new State();
            first.beFirst();
            first.settle();
            blocks[0] = new Block(0, null, NONE, new int[0], first.powers, first);
            blockCount = 1;
        }

        Block genesis() {
            return blocks[0];
        }

        boolean isFull() {
            return blockCount >= MAX_BLOCKS;
        }

        Block get(int b) {
            return b < 0 || b >= blockCount ? null : blocks[b];
        }

        boolean isTransactionOrNone(int t) {
            return t >= NONE && t < transactionCount;
        }

        int addTransaction(Transaction t) {
            if (transactionCount >= MAX_TRANSACTIONS) {
                return NONE;
            }
            transactions[transactionCount] = t;
            transactionCount++;
            return transactionCount - 1;
        }

        int addProof(int account, Message one, Message two) {
            int culprit = one.isAgainst(two) ? one.node : NONE;
            return addTransaction(new Transaction(PROVE, account, NONE, 0, culprit, one.height));
        }

        /** The number of the BLOCK that a NODE proposes behind a SOUND one, or none if there is no room. */
        int addBest(Block parent, int proposer) {
            if (isFull() || parent.state == null) {
                return NONE;
            }
            openTrial(parent);
            int many = 0;
            for (int t = 0; t < transactionCount && many < MAX_IN_BLOCK; t++) {
                if (marks[t] != mark && trial.perform(transactions[t], proposer, parent.height + 1)) {
                    picked[many] = t;
                    many++;
                }
            }
            return add(parent, proposer, Arrays.copyOf(picked, many), parent.state.powers, true);
        }

        /** The number of a BLOCK of a FAULTY NODE, SOUND or not; there must be room. */
        int addGiven(Block parent, int proposer, int[] row, int claim) {
            int[] claimed = claim == NONE ? parent.claim : hundreds(claim);
            boolean sound = parent.state != null;
            if (sound) {
                claimed = claim == NONE ? parent.state.powers : claimed;
                sound = isSameRow(claimed, parent.state.powers) && isValid(parent, proposer, row);
            }
            return add(parent, proposer, row, claimed, sound);
        }

        private boolean isValid(Block parent, int proposer, int[] row) {
            openTrial(parent);
            for (int i = 0; i < row.length; i++) {
                if (marks[row[i]] == mark || !trial.perform(transactions[row[i]], proposer, parent.height + 1)) {
                    return false;
                }
                marks[row[i]] = mark;
            }
            return true;
        }

        private void openTrial(Block parent) {
            mark++;
            for (Block b = parent; b != null; b = b.parent) {
                for (int i = 0; i < b.transactions.length; i++) {
                    marks[b.transactions[i]] = mark;
                }
            }
            trial.beLike(parent.state);
            trial.giveBack(parent.height + 1);
        }

        private int add(Block parent, int proposer, int[] row, int[] claim, boolean sound) {
            State state = null;
            if (sound) {
                state = new State();
                state.beLike(trial);
                state.settle();
            }
            blocks[blockCount] = new Block(blockCount, parent, proposer, row, claim, state);
            blockCount++;
            return blockCount - 1;
        }

        private static int[] hundreds(int bits) {
            int[] row = new int[NODES];
            for (int n = 0; n < NODES; n++) {
                row[n] = (bits >>> n & 1) * 100;
            }
            return row;
        }
    }

    // ---- NODES and LOGS

    private static final class Node {
        final int number;
        Block last;
        int round;
        int step;
        int lock = NONE;
        int lockRound = NONE;
        int candidate = NONE;
        int candidateRound = NONE;
        /** Rule (e) was done in this ROUND. */
        boolean renewed;
        /** The ROUND has begun, and its PROPOSER has yet to propose. */
        boolean justEntered;
        boolean faulty;
        boolean down;
        int failAt = NO_FAILURE;
        final Log log = new Log();
        /** A bit for each MESSAGE. */
        final int[] heard = new int[(MAX_MESSAGES + 31) / 32];
        /** Bits of proposals with a BLOCK that were the first heard of their NODE, HEIGHT and ROUND. */
        final int[] firsts = new int[(MAX_MESSAGES + 31) / 32];
        int known;

        Node(int number, Block last) {
            this.number = number;
            this.last = last;
        }

        int height() {
            return last.height + 1;
        }

        boolean acts() {
            return !faulty && !down && last.height < LAST_HEIGHT;
        }

        boolean isMost(int bits) {
            return last.state != null && last.state.isMost(bits);
        }

        boolean isSome(int bits) {
            return last.state != null && last.state.isSome(bits);
        }

        int proposerOf(int ofRound) {
            return last.state == null ? NONE : last.state.proposerOf(height(), ofRound);
        }

        boolean isGood(Block b) {
            return b != null && b.state != null && b.parent != null && b.parent.number == last.number;
        }

        void enter(int newRound) {
            round = newRound;
            step = PROPOSES;
            renewed = false;
            justEntered = true;
        }

        void unlock() {
            lock = NONE;
            lockRound = NONE;
            candidate = NONE;
            candidateRound = NONE;
        }

        void adopt(Block b) {
            last = b;
            log.clear();
            unlock();
            enter(0);
        }

        boolean hasHeard(Message m) {
            return (heard[m.number >>> 5] >>> (m.number & 31) & 1) == 1;
        }

        boolean heardAsFirst(Message m) {
            return (firsts[m.number >>> 5] >>> (m.number & 31) & 1) == 1;
        }

        /** Row is the first MESSAGE that was sent of the HEIGHT and ROUND of m. */
        void learn(Message m, Message row) {
            heard[m.number >>> 5] |= 1 << (m.number & 31);
            known++;
            if (m.kind != PROPOSAL || m.block == NONE) {
                return;
            }
            for (Message o = row; o != null; o = o.next) {
                if (o.node == m.node && heardAsFirst(o)) {
                    return;
                }
            }
            firsts[m.number >>> 5] |= 1 << (m.number & 31);
        }

        void fail() {
            down = true;
            failAt = NO_FAILURE;
            known = 0;
            Arrays.fill(heard, 0);
            Arrays.fill(firsts, 0);
        }

        void restore(Entry entry) {
            round = entry.round;
            step = entry.step;
            lock = entry.lock;
            lockRound = entry.lockRound;
            candidate = entry.candidate;
            candidateRound = entry.candidateRound;
            renewed = false;
            justEntered = false;
        }
    }

    /** A RECORD. */
    private static final class Entry {
        final int kind;
        final int block;
        final int before;
        final int round;
        final int step;
        final int lock;
        final int lockRound;
        final int candidate;
        final int candidateRound;
        /** Null as long as the MESSAGE was not sent. */
        Message sent;

        Entry(Node x, int kind, int block, int before) {
            this.kind = kind;
            this.block = block;
            this.before = before;
            round = x.round;
            step = x.step;
            lock = x.lock;
            lockRound = x.lockRound;
            candidate = x.candidate;
            candidateRound = x.candidateRound;
        }
    }

    private static final class Log {
        final Entry[] entries = new Entry[MAX_RECORDS];
        int size;
        /** Bytes of a last RECORD that is not whole. */
        int torn;

        void clear() {
            size = 0;
            torn = 0;
        }

        /** The last whole RECORD, or null. */
        Entry end() {
            return size < 1 || size > MAX_RECORDS ? null : entries[size - 1];
        }

        /** The MESSAGE of a whole RECORD, or null if it was not sent. */
        Message sentAt(int i) {
            Entry entry = i < 0 || i >= size || i >= MAX_RECORDS ? null : entries[i];
            return entry == null ? null : entry.sent;
        }

        void write(Entry entry, int bytes) {
            if (bytes < RECORD_BYTES) {
                torn = bytes;
            } else if (size < MAX_RECORDS) {
                entries[size] = entry;
                size++;
            }
        }
    }

    // ---- THE CLIENT

    private static final class Client {
        /** Each BLOCK half way halves the HEIGHTS between, and there are 300 at most. */
        private static final int MAX_WAYS = 16;
        /** Each LOOK but the last ones brings a trusted BLOCK or one more half way. */
        private static final int MAX_LOOKS = 100000;

        Block trusted;
        final Block[] wanted = new Block[MAX_WAYS];

        Client(Block trusted) {
            this.trusted = trusted;
        }

        /** How often it LOOKED, below 0 if it did not come to trust the BLOCK. */
        int reach(Block goal, Post post) {
            int open = 1;
            wanted[0] = goal;
            for (int looks = 1; looks < MAX_LOOKS; looks++) {
                Block b = wanted[open - 1];
                if (mayTrust(b, post)) {
                    trusted = b;
                    open--;
                    if (open == 0) {
                        return looks;
                    }
                } else {
                    Block half = open < MAX_WAYS && isCertified(b, post) ? halfWay(b) : null;
                    if (half == null) {
                        return -looks;
                    }
                    wanted[open] = half;
                    open++;
                }
            }
            return -MAX_LOOKS;
        }

        /** The BLOCK half way to b, or null if b is not more than 1 above. */
        private Block halfWay(Block b) {
            return b.height - trusted.height > 1 ? b.inChainAt((b.height + trusted.height) / 2) : null;
        }

        private boolean mayTrust(Block b, Post post) {
            int rise = b.height - trusted.height;
            if (rise < 1 || rise > CLIENT_REACH || trusted.state == null) {
                return false;
            }
            if (rise == 1 && (b.parent == null || b.parent.number != trusted.number
                    || !isSameRow(b.claim, trusted.state.powers))) {
                return false;
            }
            for (int q = 0; q < ROUNDS; q++) {
                int bits = post.precommittersOf(b, q);
                if (isMostOfClaim(b, bits) && trusted.state.isSome(bits)) {
                    return true;
                }
            }
            return false;
        }

        private static boolean isCertified(Block b, Post post) {
            for (int q = 0; q < ROUNDS; q++) {
                if (isMostOfClaim(b, post.precommittersOf(b, q))) {
                    return true;
                }
            }
            return false;
        }

        private static boolean isMostOfClaim(Block b, int bits) {
            return 3 * weigh(b.claim, bits) > 2 * weigh(b.claim, ALL_NODES);
        }
    }
}
