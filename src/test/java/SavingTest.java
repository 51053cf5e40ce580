/** Promises 9 to 12: saving, what would be stored, forgetting, collecting. */
public final class SavingTest {
    private static final Due due = new Due("SavingTest");
    private static final int[] NO_FILES = {-1, 6, Integer.MIN_VALUE, Integer.MAX_VALUE};

    public static void main(String[] args) {
        saveNumbers();
        saveThrows();
        chunkEnds();
        wouldStore();
        forget();
        forgetThrows();
        collectHalf();
        collectOrder();
        collectOpensContainers();
        collectKeepsOrderOfContainer();
        collectLeavesTheOneOpenAtFirst();
        collectCache();
        goneChunksComeAgain();
        due.end();
    }

    private static void saveNumbers() {
        DedupVault x = new DedupVault();
        due.same("save without bytes", x.save(0), 0);
        due.same("its chunks", x.chunksOf(0, 0), 0);
        x.append(1, 1, 50);
        due.same("save again", x.save(0), 1);
        due.same("the draft stays", x.draftLength(), 50);
        due.same("the draft stays", x.draftAt(49), 50);
        due.same("each file has its numbers", x.save(5), 0);
        due.same("save the third", x.save(0), 2);
        x.forget(0, 2);
        due.same("a number is not used again", x.save(0), 3);
        x.forget(0, 0);
        x.forget(0, 1);
        x.forget(0, 3);
        due.same("nor when none is kept", x.save(0), 4);
        due.same("the first one's bytes", x.length(5, 0), 50);
    }

    private static void saveThrows() {
        DedupVault x = new DedupVault();
        x.append(1, 1, 50);
        for (int bad : NO_FILES) {
            due.thrown("save " + bad, Due.INDEX, () -> x.save(bad));
        }
        due.same("nothing saved by a throw", x.versions(), 0);
        due.same("nothing stored by a throw", x.indexReads(), 0);
        for (int i = 0; i < 20; i++) {
            due.same("save " + i, x.save(i % 3), i / 3);
        }
        int reads = x.indexReads();
        int hits = x.cacheHits();
        x.append(3, 0, 64);
        due.thrown("save the 21st", Due.STATE, () -> x.save(4));
        due.thrown("save: the file decides first", Due.INDEX, () -> x.save(6));
        due.same("nothing saved by a throw", x.versions(), 20);
        due.same("nothing looked up by a throw", x.indexReads() + x.cacheHits(), reads + hits);
        due.same("no number used by a throw", x.latest(4), -1);
        due.same("wouldStore with 20 kept", x.wouldStore() > 0, true);
        x.forget(1, 0);
        due.same("save the 20th", x.save(4), 0);
        due.thrown("save the 21st", Due.STATE, () -> x.save(4));
    }

    private static void chunkEnds() {
        DedupVault x = new DedupVault();
        lengths(x, "8 8", 2, 0, 16);
        lengths(x, "8 7", 2, 0, 15);
        lengths(x, "7", 2, 0, 7);
        lengths(x, "32", 1, 0, 32);
        lengths(x, "31", 1, 0, 31);
        lengths(x, "32 1", 1, 0, 33);
        lengths(x, "32 32", 1, 0, 64);
        // the sum of 8 bytes from v on, each one more, is 8v + 28: 12 or 4 modulo 16, never 0
        lengths(x, "32 8", 0, 1, 40);
        // 8 zeros and 3 odd ones: the sum behind the zeros ends a chunk, the next one's window starts afresh
        Drafts.of(x, 0);
        x.append(1, 0, 7);
        x.append(9, 0, 1);
        due.sameText("7 ones and a 9 are 16", saved(x), "8 8");
        // the last 8 count, not all: 1 and then 8 twos end behind the ninth byte
        x.clearDraft();
        x.append(1, 0, 1);
        x.append(2, 0, 8);
        due.sameText("1, and 8 twos", saved(x), "9");
        // 7 zeros and a 15, then a 1 before the 15 leaves: 15 + 1 is 16
        x.clearDraft();
        x.append(0, 0, 7);
        x.append(15, 0, 1);
        x.append(1, 0, 2);
        due.sameText("7 zeros, 15, 1, 1", saved(x), "9 1");
        // a sum that is a multiple of 16 before 8 bytes are there ends nothing
        x.clearDraft();
        x.append(16, 0, 3);
        x.append(1, 0, 1);
        x.append(16, 0, 7);
        due.sameText("a 1 among sixteens", saved(x), "11");
        x.append(16, 0, 1);
        due.sameText("the 1 has just left the window", saved(x), "12");
        x.append(16, 0, 8);
        due.sameText("and 8 more sixteens", saved(x), "12 8");
        // 7 ones before the 9 make 16, but a chunk needs 8 bytes of its own
        x.clearDraft();
        x.append(1, 0, 32);
        x.append(9, 0, 1);
        x.append(1, 0, 3);
        due.sameText("32 ones, a 9, 3 ones", saved(x), "32 4");
        // high bytes are not negative: 8 times 254 is 2032, which is 127 times 16
        lengths(x, "8", 254, 0, 8);
        lengths(x, "32 32 32 32 32 32 32 16", 255, 0, 60, 4);
    }

    private static void lengths(DedupVault x, String want, int start, int step, int many) {
        lengths(x, want, start, step, many, 1);
    }

    private static void lengths(DedupVault x, String want, int start, int step, int many, int times) {
        x.clearDraft();
        for (int i = 0; i < times; i++) {
            x.append(start, step, many);
        }
        due.sameText(times + " times " + many + " bytes from " + start + " by " + step, saved(x), want);
    }

    private static String saved(DedupVault x) {
        int version = x.save(0);
        String lengths = Drafts.lengths(x, 0, version);
        x.forget(0, version);
        return lengths;
    }

    private static void wouldStore() {
        DedupVault x = new DedupVault();
        due.same("wouldStore of none", x.wouldStore(), 0);
        Drafts.of(x, 2, 4, 2, 1, 1, 2);
        due.same("each chunk counts once", x.wouldStore(), 8 + 8 + 32);
        due.same("and again: nothing is stored", x.wouldStore(), 48);
        due.same("nothing is stored", x.chunks(), 0);
        due.same("nothing is looked up", x.indexReads() + x.cacheHits(), 0);
        due.same("nothing is cached", x.cached(0), -1);
        x.save(0);
        due.same("all stored", x.storedBytes(), 48);
        due.same("wouldStore of a saved one", x.wouldStore(), 0);
        x.append(6, 0, 3);
        due.same("wouldStore of a last short one", x.wouldStore(), 3);
        x.forget(0, 0);
        due.same("garbage is stored still", x.wouldStore(), 3);
        due.same("the cache is as it was", x.cached(0), 0);
        due.same("the hits are as they were", x.cacheHits(), 3);
        Drafts.of(x, 6);
        x.append(6, 0, 7);
        due.same("7 sixes are not 8", x.wouldStore(), 15);
    }

    private static void forget() {
        DedupVault x = new DedupVault();
        Drafts.save(x, 0, 1, 3, 5);
        Drafts.save(x, 0, 1, 3, 5);
        Drafts.save(x, 1, 1);
        due.same("references", x.references(0), 3);
        due.same("forget", x.forget(0, 1), 2);
        due.same("forgotten", x.isKept(0, 1), false);
        due.same("the others are kept", x.isKept(0, 0) && x.isKept(1, 0), true);
        due.same("references", x.references(0), 2);
        due.same("forget", x.forget(0, 0), 1);
        due.same("garbage", x.garbage(), 64);
        due.same("still stored", x.isStored(2), true);
        due.same("forget the last", x.forget(1, 0), 0);
        due.same("the bytes of chunks stay", x.storedBytes(), 96);
        due.same("all is garbage", x.garbage(), 96);
    }

    private static void forgetThrows() {
        DedupVault x = new DedupVault();
        Drafts.save(x, 0, 1);
        Drafts.save(x, 2, 1);
        for (int bad : NO_FILES) {
            due.thrown("forget file " + bad, Due.INDEX, () -> x.forget(bad, 0));
        }
        int[] noVersions = {-1, 1, Integer.MIN_VALUE, Integer.MAX_VALUE};
        for (int bad : noVersions) {
            due.thrown("forget version " + bad, Due.INDEX, () -> x.forget(0, bad));
        }
        due.thrown("forget of a file without versions", Due.INDEX, () -> x.forget(1, 0));
        due.same("nothing forgotten by a throw", x.versions(), 2);
        x.forget(0, 0);
        due.thrown("forget twice", Due.INDEX, () -> x.forget(0, 0));
        due.same("references by the other one", x.references(0), 1);
    }

    /** A container is collected only if the half of it that is needed is fewer than the other. */
    private static void collectHalf() {
        DedupVault x = new DedupVault();
        Drafts.save(x, 0, 1, 3);
        Drafts.save(x, 1, 5, 7);
        Drafts.save(x, 2, 9);
        due.same("two containers", x.containers(), 2);
        due.same("nothing to collect", x.collect(), 0);
        x.forget(1, 0);
        due.same("garbage", x.garbage(), 64);
        due.same("just half is needed: it stays", x.collect(), 0);
        due.same("it stays", x.containers(), 2);
        x.forget(2, 0);
        due.same("garbage in the open one", x.garbage(), 96);
        due.same("the open one is not gone through", x.collect(), 0);
        DedupVault y = new DedupVault();
        Drafts.save(y, 0, 1, 3, 5);
        Drafts.save(y, 1, 2, 4, 6);
        Drafts.save(y, 2, 7);
        due.same("120 bytes lie in container 0", y.containerOf(6), 1);
        Drafts.save(y, 3, 3, 2, 4, 6);
        y.forget(0, 0);
        due.same("twice 56 are fewer than 120", y.collect(), 64);
        due.same("it is gone", y.containers(), 1);
        due.same("the open one", y.openContainer(), 1);
        due.same("storedBytes", y.storedBytes(), 88);
    }

    private static void collectOrder() {
        DedupVault x = new DedupVault();
        // container 0: chunks 0 to 3 of 32 bytes; container 1: 4, 5, 6, 7; container 2: 8
        Drafts.save(x, 0, 1, 3, 5, 7, 9, 11, 13);
        Drafts.save(x, 1, 15, 17);
        Drafts.save(x, 2, 5);
        Drafts.save(x, 3, 13, 11);
        due.same("containers", x.containers(), 3);
        x.forget(0, 0);
        // of container 0 only chunk 2 is needed (32 of 128), of container 1 chunks 5, 6, 7 (96 of 128)
        due.same("garbage", x.garbage(), 32 * 4);
        due.same("collect", x.collect(), 96);
        due.same("garbage of the container that stays", x.garbage(), 32);
        due.same("containers", x.containers(), 2);
        due.same("chunk 2 has its number", x.containerOf(2), 2);
        due.same("chunk 2 has its bytes", x.byteAt(2, 0, 31), 5);
        due.same("chunk 2 has its mark", x.chunkLength(2), 32);
        due.same("chunk 0 is gone", x.isStored(0), false);
        due.same("chunk 4 is garbage still", x.references(4), 0);
        due.same("collect again", x.collect(), 0);
        due.same("chunks", x.chunks(), 6);
    }

    private static void collectOpensContainers() {
        DedupVault x = new DedupVault();
        // container 0: 0 (8), 1 (32), 2 (32), 3 (32), 4 (8), 5 (8) are 120; container 1: 6, 7, 8 of 32, 9 and 10 of 8
        Drafts.save(x, 0, 2, 1, 3, 5, 4, 6);
        Drafts.save(x, 1, 7, 9, 11);
        Drafts.save(x, 1, 8, 10);
        due.same("filled", x.containerOf(10), 1);
        Drafts.save(x, 2, 4, 3, 2);
        x.forget(0, 0);
        // needed of container 0: 0 (8), 2 (32), 4 (8), in this order; container 1 has 16 bytes of room
        due.same("collect", x.collect(), 72);
        due.same("chunk 0 still fits", x.containerOf(0), 1);
        due.same("chunk 2 does not", x.containerOf(2), 2);
        due.same("chunk 4 comes behind it: container 1 is closed", x.containerOf(4), 2);
        due.same("containers", x.containers(), 2);
        due.same("openContainer", x.openContainer(), 2);
        // the container that was open when the call began is closed now, and the next call goes through it
        x.forget(1, 0);
        x.forget(1, 1);
        due.same("garbage", x.garbage(), 112);
        due.same("collect the one that was open", x.collect(), 112);
        due.same("chunk 0 moves on", x.containerOf(0), 2);
        due.same("containers", x.containers(), 1);
        due.sameText("the version is whole", Drafts.entries(x, 2, 0), "4 2 0");
        for (int i = 0; i < 48; i++) {
            due.same("its bytes", x.byteAt(2, 0, i), i < 8 ? 4 : i < 40 ? 3 : 2);
        }
    }

    @Sentence(in = "Containers and cache", says = "then the chunk is put behind the others in the open container.",
        broken = "content.add(chunk); => content.add(0, chunk);")
    @Sentence(in = "Garbage", says = "those that are not garbage are stored anew in their order", broken = {
        "needed.add(content.get(i)); => needed.add(0, content.get(i));",
        "needed.add(content.get(i)); => int at = needed.size(); while (at > 0 && needed.get(at - 1).number() > "
            + "content.get(i).number()) { at--; } needed.add(at, content.get(i));"})
    private static void collectKeepsOrderOfContainer() {
        DedupVault x = new DedupVault();
        Drafts.save(x, 0, 1, 3, 5, 7);
        Drafts.save(x, 1, 2);
        Drafts.save(x, 2, 1);
        x.forget(0, 0);
        due.same("collect", x.collect(), 96);
        // container 1 has chunk 4 (8) and then chunk 0 (32); 5 and 6 close it, container 2 gets 16 bytes of room
        Drafts.save(x, 3, 9, 11);
        Drafts.save(x, 4, 13, 15, 17, 4, 6);
        due.same("openContainer", x.openContainer(), 2);
        x.forget(3, 0);
        due.same("collect", x.collect(), 64);
        due.same("chunk 4 lay first and fits", x.containerOf(4), 2);
        due.same("chunk 0 lay behind it", x.containerOf(0), 3);
        due.same("containers", x.containers(), 2);
    }

    private static void collectLeavesTheOneOpenAtFirst() {
        DedupVault x = new DedupVault();
        Drafts.save(x, 0, 1, 3, 5, 7);
        Drafts.save(x, 1, 9, 11, 13, 2);
        Drafts.save(x, 2, 1);
        x.forget(0, 0);
        x.forget(1, 0);
        // chunk 0 does not fit behind the 104 bytes of garbage: container 1 is closed on the way
        due.same("collect", x.collect(), 96);
        due.same("containers", x.containers(), 2);
        due.same("openContainer", x.openContainer(), 2);
        due.same("garbage in what was open", x.garbage(), 104);
        due.same("the next call collects it", x.collect(), 104);
        due.same("containers", x.containers(), 1);
    }

    private static void collectCache() {
        DedupVault x = new DedupVault();
        Drafts.save(x, 0, 1, 3, 5, 7, 9, 11, 13);
        Drafts.save(x, 1, 15, 17);
        due.sameText("cached", Drafts.cache(x), "2 1 0");
        int hits = x.cacheHits();
        int reads = x.indexReads();
        x.forget(0, 0);
        due.same("collect", x.collect(), 224);
        due.sameText("the gone ones leave the cache, storing uses none", Drafts.cache(x), "2 -1 -1");
        due.same("containers", x.containers(), 1);
        due.same("collect looks nothing up", x.cacheHits() + x.indexReads(), hits + reads);
        DedupVault y = new DedupVault();
        Drafts.save(y, 0, 1, 3, 5, 7);
        Drafts.save(y, 1, 9, 11, 13, 15);
        Drafts.save(y, 2, 17);
        y.forget(1, 0);
        due.same("collect the middle one", y.collect(), 128);
        due.sameText("those behind move up", Drafts.cache(y), "2 0 -1");
        due.same("a gone number is not open again", y.openContainer(), 2);
    }

    private static void goneChunksComeAgain() {
        DedupVault x = new DedupVault();
        Drafts.save(x, 0, 1, 3, 5, 7);
        Drafts.save(x, 1, 9);
        x.forget(0, 0);
        due.same("collect", x.collect(), 128);
        due.same("gone", x.isStored(0), false);
        Drafts.save(x, 0, 1, 9);
        due.sameText("a new number", Drafts.entries(x, 0, 1), "5 4");
        due.same("the old one is not stored", x.isStored(0), false);
        due.same("its container", x.containerOf(5), 1);
        Drafts.save(x, 3, 3);
        x.forget(3, 0);
        due.same("garbage", x.garbage(), 32);
        Drafts.save(x, 3, 3);
        due.same("garbage is found again", x.garbage(), 0);
        due.sameText("by its old number", Drafts.entries(x, 3, 1), "6");
    }
}
