import java.util.Random;

/**
 * All promises: long walks of chosen calls, each answer, and all that can be asked, compared with the model's.
 * Asking for all takes an object past its 512th call, where the document leaves the answers free; this class answers on.
 * Two walks in three ask for all at their end alone, so that they are of 512 calls until then.
 */
public final class ModelTest {
    private static final Due due = new Due("ModelTest");
    private static final int CALLS = 512;

    private final Random random;
    private final int kind;
    private final DedupVault x = new DedupVault();
    private final Model m = new Model();
    private final String name;
    // What the walks have met: a walk that never comes to a thing shows nothing about it.
    private static final int[] met = new int[12];

    private ModelTest(int seed) {
        random = new Random(seed);
        kind = seed % 5;
        name = "walk " + seed + " ";
    }

    public static void main(String[] args) {
        for (int seed = 1; seed <= 150; seed++) {
            new ModelTest(seed).walk(seed % 3 == 0);
        }
        String[] things = {"collects that freed", "chunks moved", "hits", "reads of old chunks", "differences",
            "chains of 3", "forgotten bases", "refused saves", "refused drafts", "numbers gone", "caches left",
            "garbage found again"};
        for (int i = 0; i < things.length; i++) {
            due.same("the walks meet " + things[i] + " (" + met[i] + ")", met[i] > 20, true);
        }
        due.end();
    }

    private void walk(boolean askAll) {
        for (int i = 0; i < CALLS; i++) {
            String call = name + "call " + i + ": ";
            int before = m.garbage();
            int chunksBefore = m.chunks();
            if (random.nextInt(100) < 55) {
                change(call);
            } else {
                ask(call);
            }
            if (m.garbage() < before && m.chunks() >= chunksBefore) {
                met[11]++;
            }
            if (askAll && i % 8 == 0) {
                compareAll(call);
            }
        }
        compareAll(name + "at its end: ");
    }

    private void same(String what, Due.Call got, Due.Call want) {
        due.sameText(what, Due.outcome(got), Due.outcome(want));
    }

    private void change(String call) {
        int roll = random.nextInt(100);
        if (roll < 18) {
            append(call);
        } else if (roll < 28) {
            int f = file();
            int v = version(f);
            int from = small(200);
            int many = small(120);
            same(call + "appendCopy", () -> x.appendCopy(f, v, from, many), () -> m.appendCopy(f, v, from, many));
        } else if (roll < 36) {
            int place = place(m.draft.size());
            int value = value();
            same(call + "insert", () -> x.insert(place, value), () -> m.insert(place, value));
        } else if (roll < 44) {
            int place = place(m.draft.size());
            int many = small(kind == 1 ? 100 : 20);
            same(call + "cut", () -> x.cut(place, many), () -> m.cut(place, many));
        } else if (roll < 50) {
            same(call + "clearDraft", x::clearDraft, m::clearDraft);
        } else if (roll < 72) {
            save(call);
        } else if (roll < 90 || kind == 2) {
            forget(call);
        } else {
            collect(call);
        }
    }

    private void append(String call) {
        int start = value();
        int step = kind == 0 ? random.nextInt(3) : value();
        int many = random.nextInt(20) == 0 ? random.nextInt(70) - 2 : 1 + random.nextInt(64);
        if (m.draft.size() + many > 240) {
            met[8]++;
        }
        same(call + "append", () -> x.append(start, step, many), () -> m.append(start, step, many));
    }

    private void save(String call) {
        int f = file();
        met[7] += m.versions() == 20 ? 1 : 0;
        int hits = m.cacheHits();
        int reads = m.indexReads();
        int high = m.highestChunk();
        same(call + "save", () -> x.save(f), () -> m.save(f));
        met[2] += m.cacheHits() - hits;
        met[3] += m.indexReads() - reads - (m.highestChunk() - high);
        if (f >= 0 && f < 6 && m.latest(f) >= 0) {
            met[4] += m.baseOf(f, m.latest(f)) >= 0 ? 1 : 0;
            met[5] += m.chainOf(f, m.latest(f)) == 3 ? 1 : 0;
        }
    }

    private void forget(String call) {
        int f = file();
        int v = version(f);
        if (f >= 0 && f < 6 && m.isKept(f, v)) {
            for (int w = 0; w <= m.latest(f); w++) {
                met[6] += m.isKept(f, w) && m.baseOf(f, w) == v ? 1 : 0;
            }
        }
        same(call + "forget", () -> x.forget(f, v), () -> m.forget(f, v));
    }

    private void collect(String call) {
        int chunks = m.chunks();
        int boxes = m.containers();
        int open = m.openContainer();
        int third = m.cached(2);
        same(call + "collect", x::collect, m::collect);
        met[0] += m.containers() < boxes ? 1 : 0;
        met[1] += m.openContainer() > open ? 1 : 0;
        met[9] += chunks - m.chunks();
        met[10] += m.cached(2) != third ? 1 : 0;
    }

    private void ask(String call) {
        int f = file();
        int v = version(f);
        int p = small(35);
        int b = small(245);
        int c = chunk();
        switch (random.nextInt(20)) {
            case 0 -> same(call + "wouldStore", x::wouldStore, m::wouldStore);
            case 1 -> same(call + "draftAt", () -> x.draftAt(b), () -> m.draftAt(b));
            case 2 -> same(call + "isKept", () -> x.isKept(f, v) ? 1 : 0, () -> m.isKept(f, v) ? 1 : 0);
            case 3 -> same(call + "latest", () -> x.latest(f), () -> m.latest(f));
            case 4 -> same(call + "length", () -> x.length(f, v), () -> m.length(f, v));
            case 5 -> same(call + "byteAt", () -> x.byteAt(f, v, b), () -> m.byteAt(f, v, b));
            case 6 -> same(call + "byteByCopy", () -> x.byteByCopy(f, v, b), () -> m.byteByCopy(f, v, b));
            case 7 -> same(call + "chunksOf", () -> x.chunksOf(f, v), () -> m.chunksOf(f, v));
            case 8 -> same(call + "chunkAt", () -> x.chunkAt(f, v, p), () -> m.chunkAt(f, v, p));
            case 9 -> same(call + "baseOf", () -> x.baseOf(f, v), () -> m.baseOf(f, v));
            case 10 -> same(call + "chainOf", () -> x.chainOf(f, v), () -> m.chainOf(f, v));
            case 11 -> same(call + "costOf", () -> x.costOf(f, v), () -> m.costOf(f, v));
            case 12 -> same(call + "isStored", () -> x.isStored(c) ? 1 : 0, () -> m.isStored(c) ? 1 : 0);
            case 13 -> same(call + "chunkLength", () -> x.chunkLength(c), () -> m.chunkLength(c));
            case 14 -> same(call + "fingerprint", () -> x.fingerprint(c), () -> m.fingerprint(c));
            case 15 -> same(call + "references", () -> x.references(c), () -> m.references(c));
            case 16 -> same(call + "containerOf", () -> x.containerOf(c), () -> m.containerOf(c));
            case 17 -> same(call + "cached", () -> x.cached(p), () -> m.cached(p));
            case 18 -> same(call + "garbage", x::garbage, m::garbage);
            default -> due.sameDouble(call + "ratio", x.ratio(), m.ratio());
        }
    }

    private void compareAll(String call) {
        same(call + "draftLength", x::draftLength, () -> m.draft.size());
        same(call + "wouldStore", x::wouldStore, m::wouldStore);
        same(call + "versions", x::versions, m::versions);
        same(call + "chunks", x::chunks, m::chunks);
        same(call + "containers", x::containers, m::containers);
        same(call + "openContainer", x::openContainer, m::openContainer);
        same(call + "cacheHits", x::cacheHits, m::cacheHits);
        same(call + "indexReads", x::indexReads, m::indexReads);
        same(call + "storedBytes", x::storedBytes, m::storedBytes);
        same(call + "savedBytes", x::savedBytes, m::savedBytes);
        same(call + "garbage", x::garbage, m::garbage);
        due.sameDouble(call + "ratio", x.ratio(), m.ratio());
        for (int i = -1; i < 4; i++) {
            int place = i;
            same(call + "cached " + i, () -> x.cached(place), () -> m.cached(place));
        }
        for (int i = -1; i <= m.draft.size(); i++) {
            int place = i;
            same(call + "draftAt " + i, () -> x.draftAt(place), () -> m.draftAt(place));
        }
        for (int i = -1; i <= m.highestChunk(); i++) {
            compareChunk(call, i);
        }
        for (int f = -1; f <= 6; f++) {
            int file = f;
            same(call + "latest " + f, () -> x.latest(file), () -> m.latest(file));
            for (int v = -1; f >= 0 && f < 6 && v <= m.latest(f) + 1; v++) {
                compareVersion(call + "version " + f + "." + v + " ", f, v);
            }
        }
    }

    private void compareChunk(String call, int c) {
        same(call + "isStored " + c, () -> x.isStored(c) ? 1 : 0, () -> m.isStored(c) ? 1 : 0);
        same(call + "chunkLength " + c, () -> x.chunkLength(c), () -> m.chunkLength(c));
        same(call + "fingerprint " + c, () -> x.fingerprint(c), () -> m.fingerprint(c));
        same(call + "references " + c, () -> x.references(c), () -> m.references(c));
        same(call + "containerOf " + c, () -> x.containerOf(c), () -> m.containerOf(c));
    }

    private void compareVersion(String call, int f, int v) {
        same(call + "isKept", () -> x.isKept(f, v) ? 1 : 0, () -> m.isKept(f, v) ? 1 : 0);
        same(call + "length", () -> x.length(f, v), () -> m.length(f, v));
        same(call + "chunksOf", () -> x.chunksOf(f, v), () -> m.chunksOf(f, v));
        same(call + "baseOf", () -> x.baseOf(f, v), () -> m.baseOf(f, v));
        same(call + "chainOf", () -> x.chainOf(f, v), () -> m.chainOf(f, v));
        same(call + "costOf", () -> x.costOf(f, v), () -> m.costOf(f, v));
        if (!m.isKept(f, v)) {
            return;
        }
        for (int i = -1; i <= m.chunksOf(f, v); i++) {
            int place = i;
            same(call + "chunkAt " + i, () -> x.chunkAt(f, v, place), () -> m.chunkAt(f, v, place));
        }
        for (int i = -1; i <= m.length(f, v); i++) {
            int place = i;
            same(call + "byteAt " + i, () -> x.byteAt(f, v, place), () -> m.byteAt(f, v, place));
            same(call + "byteByCopy " + i, () -> x.byteByCopy(f, v, place), () -> m.byteByCopy(f, v, place));
        }
    }

    // ---- arguments: mostly ones that a call takes, now and then one at or over an edge

    private boolean odd() {
        return random.nextInt(25) == 0;
    }

    private int extreme() {
        int[] all = {-1, -2, 6, 20, 32, 64, 65, 240, 241, 255, 256, Integer.MAX_VALUE, Integer.MIN_VALUE};
        return all[random.nextInt(all.length)];
    }

    private int file() {
        return odd() ? extreme() : random.nextInt(kind == 3 ? 1 : kind == 4 ? 6 : 3);
    }

    private int version(int file) {
        if (odd() || file < 0 || file > 5) {
            return odd() ? extreme() : random.nextInt(12);
        }
        return m.keptVersion(file, random.nextInt(1000));
    }

    private int value() {
        if (odd()) {
            return extreme();
        }
        return kind == 0 ? random.nextInt(3) * 8 : kind == 3 ? random.nextInt(24) : random.nextInt(256);
    }

    private int place(int size) {
        return odd() ? extreme() : random.nextInt(size + 1);
    }

    private int small(int bound) {
        return odd() ? extreme() : random.nextInt(2) == 0 ? random.nextInt(bound) : random.nextInt(6);
    }

    private int chunk() {
        return odd() ? extreme() : random.nextInt(m.highestChunk() + 1);
    }
}
