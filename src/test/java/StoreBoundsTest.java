/**
 * The terms "Containers and cache", "Differences" and "Garbage", sentence by sentence: what each says of a boundary case.
 * Drafts makes the chunks: 8 bytes of an even value, 32 of an odd one.
 */
public final class StoreBoundsTest {
    private static final Due due = new Due("StoreBoundsTest");

    public static void main(String[] args) {
        Sentences.run(StoreBoundsTest.class);
        due.end();
    }

    /** Saves a version of one chunk that has as many bytes of a value, and is shorter than where a sum could end it. */
    private static void save(DedupVault x, int file, int value, int many) {
        x.clearDraft();
        x.append(value, 0, many);
        x.save(file);
    }

    // ---- containers

    @Sentence(in = "Containers and cache", says = "Containers are numbered from 0; container 0 is open at first,", broken = {
        "open = new Container(0); => open = new Container(1);", "in openContainer: if (chunks() == 0) { return -1; }"})
    private static void containerZeroIsOpenAtFirst() {
        DedupVault x = new DedupVault();
        due.same("openContainer", x.openContainer(), 0);
        Drafts.save(x, 0, 1);
        due.same("openContainer with a chunk", x.openContainer(), 0);
        due.same("containerOf the first chunk", x.containerOf(0), 0);
    }

    @Sentence(in = "Containers and cache", says = "the others come later.", broken = {
        "Shelf() { ... boxes.add(open); => boxes.add(open); boxes.add(new Container(1));",
        "in containers: if (chunks() == 0) { return 0; }"})
    private static void otherContainersComeLater() {
        DedupVault x = new DedupVault();
        due.same("containers at first", x.containers(), 1);
        Drafts.save(x, 0, 1, 3, 5, 7);
        due.same("containers with a full one", x.containers(), 1);
        save(x, 0, 9, 1);
        due.same("containers with a byte more", x.containers(), 2);
    }

    @Sentence(in = "Containers and cache", says = "A container holds at most 128 bytes.", broken = {
        "CONTAINER_ROOM = 128 => CONTAINER_ROOM = 127", "CONTAINER_ROOM = 128 => CONTAINER_ROOM = 129",
        "CONTAINER_ROOM - filled; => CONTAINER_ROOM - filled - 1;", "return bytes.size() <= => return bytes.size() <"})
    private static void containersOf128() {
        DedupVault x = new DedupVault();
        Drafts.save(x, 0, 1, 3, 5);
        save(x, 0, 7, 31);
        due.same("127 bytes", x.containers(), 1);
        save(x, 0, 7, 1);
        due.same("the 128th", x.containerOf(4), 0);
        save(x, 0, 9, 1);
        due.same("the 129th", x.containerOf(5), 1);
        DedupVault y = new DedupVault();
        Drafts.save(y, 0, 1, 3, 5, 7);
        due.same("four times 32", y.containerOf(3), 0);
        DedupVault z = new DedupVault();
        Drafts.save(z, 0, 1, 3, 5);
        save(z, 0, 7, 31);
        save(z, 0, 9, 2);
        due.same("2 behind 127", z.containerOf(4), 1);
    }

    @Sentence(in = "Containers and cache", says = "if it does not fit into the open container, that is closed,", broken = {
        "private Container openFor(Piece bytes) { => private Container openFor(Piece bytes) { "
            + "for (int i = 0; i < boxes.size(); i++) { if (boxes.get(i).fits(bytes)) { return boxes.get(i); } }",
        "nextChunk++; => nextChunk++; if (box.filled() == CONTAINER_ROOM) { open = new Container(open.number() + 1); "
            + "boxes.add(open); }"})
    private static void closedByWhatDoesNotFit() {
        DedupVault x = new DedupVault();
        Drafts.save(x, 0, 1, 3, 5, 2);
        due.same("104 bytes are open", x.openContainer(), 0);
        Drafts.save(x, 0, 7);
        due.same("32 more do not fit", x.openContainer(), 1);
        Drafts.save(x, 0, 4);
        due.same("8 would fit into 0, but that is closed", x.containerOf(5), 1);
        DedupVault y = new DedupVault();
        Drafts.save(y, 0, 1, 3, 5, 7);
        due.same("a full one is open", y.openContainer(), 0);
        Drafts.save(y, 0, 7);
        due.same("what is stored already closes nothing", y.openContainer(), 0);
        y.save(1);
        y.collect();
        due.same("nor does a collect", y.openContainer(), 0);
    }

    @Sentence(in = "Containers and cache", says = "and a new container with the next number is open;", broken = {
        "new Container(open.number() + 1) => new Container(boxes.size())",
        "new Container(open.number() + 1) => new Container(open.number() + 2)"})
    private static void theNextNumberIsOpen() {
        DedupVault x = new DedupVault();
        Drafts.save(x, 0, 1, 3, 5, 7);
        Drafts.save(x, 1, 9, 11, 13, 15);
        Drafts.save(x, 2, 17);
        due.same("the third", x.openContainer(), 2);
        x.forget(0, 0);
        x.forget(1, 0);
        due.same("two are gone", x.collect(), 256);
        Drafts.save(x, 3, 19, 21, 23, 25);
        due.same("the fourth, of two", x.openContainer(), 3);
        due.same("containers", x.containers(), 2);
    }

    // ---- the cache

    @Sentence(in = "Containers and cache", says = "The cache has at most 3 containers,", broken = {
        "CACHE_PLACES = 3 => CACHE_PLACES = 2", "CACHE_PLACES = 3 => CACHE_PLACES = 4"})
    private static void cacheOf3() {
        DedupVault x = new DedupVault();
        Drafts.save(x, 0, 1, 3, 5, 7);
        Drafts.save(x, 1, 9, 11, 13, 15);
        Drafts.save(x, 2, 17, 19, 21, 23);
        due.sameText("three", Drafts.cache(x), "2 1 0");
        Drafts.save(x, 3, 25);
        due.sameText("of four", Drafts.cache(x), "3 2 1");
        Drafts.save(x, 4, 9);
        due.same("the third one is a hit", x.cacheHits(), 1);
        Drafts.save(x, 4, 1);
        due.same("the fourth one is none", x.cacheHits(), 1);
    }

    @Sentence(in = "Containers and cache", says = "in the order in which they were used, the latest first;", broken = {
        "recent.add(0, box); => recent.add(recent.size(), box);",
        "recent.add(0, box); => recent.add(Math.min(1, recent.size()), box);"})
    private static void theLatestFirst() {
        DedupVault x = new DedupVault();
        Drafts.save(x, 0, 1, 3, 5, 7);
        Drafts.save(x, 1, 9);
        due.sameText("two", Drafts.cache(x), "1 0 -1");
        Drafts.save(x, 2, 9, 1);
        due.sameText("used the other way round", Drafts.cache(x), "0 1 -1");
    }

    @Sentence(in = "Containers and cache", says = "it is empty at first.",
        broken = "Shelf() { ... boxes.add(open); => boxes.add(open); recent.add(open);")
    private static void cacheEmptyAtFirst() {
        DedupVault x = new DedupVault();
        due.sameText("at first", Drafts.cache(x), "-1 -1 -1");
        x.save(0);
        due.sameText("with a version without bytes", Drafts.cache(x), "-1 -1 -1");
        Drafts.of(x, 1);
        x.wouldStore();
        due.sameText("with a draft", Drafts.cache(x), "-1 -1 -1");
    }

    /** The containers 0, 1 and 2 are cached, and chunks 0 to 3, 4 to 7, 8 to 11 lie in them. */
    private static DedupVault threeCached() {
        DedupVault x = new DedupVault();
        Drafts.save(x, 0, 1, 3, 5, 7);
        Drafts.save(x, 0, 9, 11, 13, 15);
        Drafts.save(x, 0, 17, 19, 21, 23);
        return x;
    }

    @Sentence(in = "Containers and cache", says = "Using a container brings it to the first place;", broken = {
        "use(Container box) { => use(Container box) { if (recent.size() > 2 && recent.get(2) == box) { return; }",
        "use(Container box) { => use(Container box) { if (recent.size() > 1 && recent.get(1) == box) { return; }",
        "use(Container box) { => use(Container box) { if (recent.size() > 0 && recent.get(0) == box) "
            + "{ recent.remove(0); return; }"})
    private static void usedOnesComeFirst() {
        DedupVault x = threeCached();
        Drafts.save(x, 1, 1);
        due.sameText("the last place", Drafts.cache(x), "0 2 1");
        Drafts.save(x, 1, 17);
        due.sameText("the place between", Drafts.cache(x), "2 0 1");
        Drafts.save(x, 1, 19);
        due.sameText("the first place", Drafts.cache(x), "2 0 1");
    }

    @Sentence(in = "Containers and cache", says = "if there are more than 3 then, the last one leaves the cache.", broken = {
        "recent.size() > CACHE_PLACES => recent.size() >= CACHE_PLACES", "recent.remove(recent.size() - 1) => recent.remove(1)",
        "use(Container box) { ... leaveCache(box); => ;", "recent.size() > CACHE_PLACES => recent.size() > CACHE_PLACES + 1"})
    private static void theLastLeaves() {
        DedupVault x = threeCached();
        due.sameText("the third one in", Drafts.cache(x), "2 1 0");
        Drafts.save(x, 1, 3);
        due.sameText("one of the three used: none leaves", Drafts.cache(x), "0 2 1");
        Drafts.save(x, 1, 25);
        due.sameText("a fourth one: the last leaves", Drafts.cache(x), "3 0 2");
        Drafts.save(x, 2, 9);
        due.sameText("the one that left comes again", Drafts.cache(x), "1 3 0");
        due.same("by the index", x.cacheHits(), 1);
    }

    @Sentence(in = "Containers and cache", says = "the cached containers are looked through from the first place on", broken = {
        "Chunk chunk = chunkIn(recent, piece); => Chunk chunk = recent.isEmpty() ? null : recent.get(0).withBytes(piece);",
        "Chunk chunk = chunkIn(recent, piece); => Chunk chunk = recent.size() < 2 ? null : chunkIn(recent, piece);",
        "Chunk chunk = chunkIn(recent, piece); => Chunk chunk = recent.size() > 2 && recent.get(2).withBytes(piece) != null"
            + " ? null : chunkIn(recent, piece);"})
    private static void eachCachedContainerIsLookedThrough() {
        DedupVault x = new DedupVault();
        Drafts.save(x, 0, 1);
        Drafts.save(x, 0, 1);
        due.same("the one container", x.cacheHits(), 1);
        DedupVault y = threeCached();
        Drafts.save(y, 1, 17, 9, 1);
        due.same("the first, the second, the third place", y.cacheHits(), 3);
        due.same("the last chunk of the last place", hitOf(15), 1);
        due.same("the first chunk of the last place", hitOf(9), 1);
    }

    /** Whether a chunk of container 1 is a hit when that is in the last place. */
    private static int hitOf(int value) {
        DedupVault x = threeCached();
        Drafts.save(x, 1, 1);
        int before = x.cacheHits();
        Drafts.save(x, 1, value);
        return x.cacheHits() - before;
    }

    @Sentence(in = "Containers and cache", says = "that is a cache hit, and the container is used.", broken = {
        "hits++; => hits++; return chunk;", "hits++; => reads++;", "hits++; => hits++; reads++;"})
    private static void hitsUseTheContainer() {
        DedupVault x = threeCached();
        int reads = x.indexReads();
        Drafts.save(x, 1, 5);
        due.same("cacheHits", x.cacheHits(), 1);
        due.same("indexReads", x.indexReads(), reads);
        due.sameText("the container is used", Drafts.cache(x), "0 2 1");
    }

    @Sentence(in = "Containers and cache", says = "if a container has a chunk with these bytes, that container is used;", broken = {
        "chunk = chunkIn(boxes, piece); => chunk = chunkIn(boxes, piece); if (chunk != null) { return chunk; }",
        "chunk = chunkIn(boxes, piece); => chunk = null;", "reads++;\n => reads += chunkIn(boxes, piece) == null ? 1 : 0;\n",
        "reads++;\n => reads++; hits += chunkIn(boxes, piece) == null ? 0 : 1;\n"})
    private static void readsUseTheContainer() {
        DedupVault x = threeCached();
        Drafts.save(x, 1, 25);
        due.same("container 0 is not cached", x.cached(2), 1);
        int reads = x.indexReads();
        Drafts.save(x, 1, 7);
        due.same("indexReads", x.indexReads(), reads + 1);
        due.same("cacheHits", x.cacheHits(), 0);
        due.sameText("the container is used", Drafts.cache(x), "0 3 2");
        due.same("chunks", x.chunks(), 13);
    }

    @Sentence(in = "Containers and cache", says = "otherwise the chunk is stored, and the container in which it is then", broken = {
        "chunk = storeNew(piece); => Container was = open; chunk = storeNew(piece); use(was);",
        "chunk = storeNew(piece); => chunk = storeNew(piece); return chunk;",
        "chunk = storeNew(piece); => Container was = open; chunk = storeNew(piece); use(was); return chunk;"})
    private static void storingUsesTheContainer() {
        DedupVault x = new DedupVault();
        Drafts.save(x, 0, 1);
        due.sameText("the first chunk", Drafts.cache(x), "0 -1 -1");
        Drafts.save(x, 0, 3, 5, 7);
        Drafts.save(x, 0, 9);
        due.sameText("one that does not fit: the new container", Drafts.cache(x), "1 0 -1");
        Drafts.save(x, 0, 1);
        Drafts.save(x, 0, 11);
        due.sameText("one that fits behind it", Drafts.cache(x), "1 0 -1");
        // container 0 is full and left the cache; one that does not fit closes it without using it
        DedupVault y = threeCached();
        Drafts.save(y, 1, 1, 9);
        due.sameText("the open one is last", Drafts.cache(y), "1 0 2");
        Drafts.save(y, 1, 25);
        due.sameText("closed, it is not used: it leaves", Drafts.cache(y), "3 1 0");
    }

    // ---- differences

    private static void kept(DedupVault x, int file, int version, int base, int chain, int cost) {
        String what = " of " + file + "." + version;
        due.same("baseOf" + what, x.baseOf(file, version), base);
        due.same("chainOf" + what, x.chainOf(file, version), chain);
        due.same("costOf" + what, x.costOf(file, version), cost);
    }

    @Sentence(in = "Differences", says = "the version of the same file that was the latest kept one when it was saved.", broken = {
        "made.chooseBase(latestKept(file)); => made.chooseBase(findVersion(file, number - 1));",
        "made.chooseBase(latestKept(file)); => made.chooseBase(kept.isEmpty() ? null : kept.get(kept.size() - 1));",
        "made.chooseBase(latestKept(file)); => made.chooseBase(findVersion(file, 0));"})
    private static void theLatestKeptIsTheBase() {
        DedupVault x = new DedupVault();
        Drafts.save(x, 0, 2, 4, 6);
        Drafts.save(x, 0, 2, 4, 6);
        Drafts.save(x, 1, 8, 10, 12);
        Drafts.save(x, 0, 2, 4, 6);
        kept(x, 0, 2, 1, 2, 2);
        x.forget(0, 2);
        x.forget(0, 1);
        Drafts.save(x, 0, 2, 4, 6);
        kept(x, 0, 3, 0, 1, 2);
        // forgotten later, the latest one of then is the base no more, and no other one is
        Drafts.save(x, 0, 2, 4, 6);
        x.forget(0, 3);
        kept(x, 0, 4, -1, 0, 3);
    }

    @Sentence(in = "Differences", says = "the difference costs its entries less p less s, and 2 more;", broken = {
        "DIFFERENCE_EXTRA = 2 => DIFFERENCE_EXTRA = 1", "DIFFERENCE_EXTRA = 2 => DIFFERENCE_EXTRA = 3",
        "while (front < most && => while (front < most - 1 &&", "while (back < most - front && => while (back < 0 &&",
        "while (front < most && => while (front < 0 &&", "while (back < most - front && => while (back < most &&",
        "while (back < most - front && => while (back < most - front - 1 &&"})
    private static void costsOfDifferences() {
        DedupVault x = new DedupVault();
        Drafts.save(x, 0, 2, 4, 6, 8, 10);
        Drafts.save(x, 0, 2, 4, 6, 8, 10);
        // all are alike at the beginnings, and none is left for the ends
        kept(x, 0, 1, 0, 1, 2);
        Drafts.save(x, 0, 12, 4, 6, 8, 10);
        // none is alike at the beginnings, 4 at the ends
        kept(x, 0, 2, 1, 2, 3);
        Drafts.save(x, 0, 12, 4, 6, 8, 14);
        // 4 are alike at the beginnings, none at the ends
        kept(x, 0, 3, 2, 3, 3);
        DedupVault y = new DedupVault();
        Drafts.save(y, 0, 2, 4, 6);
        // all of the base are alike at the beginnings, or at the ends
        Drafts.save(y, 0, 2, 4, 6, 8);
        kept(y, 0, 1, 0, 1, 3);
        Drafts.save(y, 0, 10, 2, 4, 6, 8);
        kept(y, 0, 2, 1, 2, 3);
        // all of the version itself are
        Drafts.save(y, 0, 10, 2, 4);
        kept(y, 0, 3, 2, 3, 2);
    }

    @Sentence(in = "Differences", says = "a version in full costs as many as its entries.", broken = {
        "return base == null ? entries.size() : => return base == null && !entries.isEmpty() ? entries.size() + 1 :",
        "return base == null ? entries.size() : => return base == null ? Math.max(1, entries.size()) :",
        "return base == null ? entries.size() : => return base == null ? Math.min(29, entries.size()) :"})
    private static void costsInFull() {
        DedupVault x = new DedupVault();
        x.save(0);
        due.same("of none", x.costOf(0, 0), 0);
        x.append(0, 0, 1);
        x.save(1);
        due.same("of one", x.costOf(1, 0), 1);
        Bounds.stairs(x, 30);
        x.save(2);
        due.same("of 30", x.costOf(2, 0), 30);
        x.clearDraft();
        x.append(0, 0, 64);
        x.save(3);
        due.same("of 8 times one", x.costOf(3, 0), 8);
    }

    @Sentence(in = "Differences", says = "The chain of a version in full is 0, that of a difference 1 more", broken = {
        "int links = 0; => int links = 1;", "int links = 0; => int links = base == null ? 0 : 1;",
        "int chain() { => int chain() { if (base != null) { return 1; }"})
    private static void chainsGrowByOne() {
        DedupVault x = new DedupVault();
        Bounds.stairs(x, 3);
        for (int version = 0; version <= 3; version++) {
            x.save(0);
            due.same("chainOf " + version, x.chainOf(0, version), version);
        }
    }

    @Sentence(in = "Differences", says = "A version that is saved is kept in full if there is no base for it,", broken = {
        "made.chooseBase(latestKept(file)); => made.chooseBase(latestKept(file) == null && !kept.isEmpty() ? kept.get(0) "
            + ": latestKept(file));",
        "gone.releaseEntries(); => gone.releaseEntries(); if (latestKept(file) == null) { kept.add(gone); }"})
    private static void fullWithoutABase() {
        DedupVault x = new DedupVault();
        Bounds.stairs(x, 3);
        x.save(0);
        kept(x, 0, 0, -1, 0, 3);
        x.save(1);
        kept(x, 1, 0, -1, 0, 3);
        x.forget(0, 0);
        x.save(0);
        kept(x, 0, 1, -1, 0, 3);
    }

    @Sentence(in = "Differences", says = "if its chain would be 4,", broken = {"LONGEST_CHAIN = 3 => LONGEST_CHAIN = 2",
        "LONGEST_CHAIN = 3 => LONGEST_CHAIN = 4"})
    private static void fullInsteadOfAChainOf4() {
        DedupVault x = new DedupVault();
        Bounds.stairs(x, 3);
        for (int version = 0; version <= 5; version++) {
            x.save(0);
        }
        kept(x, 0, 3, 2, 3, 2);
        kept(x, 0, 4, -1, 0, 3);
        kept(x, 0, 5, 4, 1, 2);
        // the chain is what it is when the version is saved, and not what it was
        DedupVault y = new DedupVault();
        Bounds.stairs(y, 3);
        for (int version = 0; version <= 3; version++) {
            y.save(0);
        }
        y.forget(0, 0);
        y.save(0);
        kept(y, 0, 4, 3, 3, 2);
    }

    @Sentence(in = "Differences", says = "or if the difference would cost as much as it does in full, or more;", broken = {
        "differenceTo(earlier) < entries.size() => differenceTo(earlier) <= entries.size()",
        "differenceTo(earlier) < entries.size() => differenceTo(earlier) != entries.size()",
        "differenceTo(earlier) < entries.size() => differenceTo(earlier) < entries.size() + 2"})
    private static void fullAtTheSameCost() {
        DedupVault x = new DedupVault();
        Drafts.save(x, 0, 2, 4, 6, 8);
        // 4 - 2 + 2 is 4
        Drafts.save(x, 0, 2, 4, 10, 12);
        kept(x, 0, 1, -1, 0, 4);
        // 4 - 1 + 2 is 5
        Drafts.save(x, 0, 2, 6, 14, 16);
        kept(x, 0, 2, -1, 0, 4);
        // 4 - 0 + 2 is 6
        Drafts.save(x, 0, 18, 20, 22, 24);
        kept(x, 0, 3, -1, 0, 4);
        // two alike entries are 2 either way
        Drafts.save(x, 1, 2, 4);
        Drafts.save(x, 1, 2, 4);
        kept(x, 1, 1, -1, 0, 2);
        // no entries are 0 in full
        x.clearDraft();
        x.save(2);
        x.save(2);
        kept(x, 2, 1, -1, 0, 0);
    }

    @Sentence(in = "Differences", says = "otherwise as a difference.", broken = {
        "differenceTo(earlier) < entries.size() => differenceTo(earlier) + 1 < entries.size()",
        "differenceTo(earlier) < entries.size() => differenceTo(earlier) < entries.size() && earlier.chain() < 1"})
    private static void differenceAtOneLess() {
        DedupVault x = new DedupVault();
        Drafts.save(x, 0, 2, 4, 6);
        // 3 - 3 + 2 is 2
        Drafts.save(x, 0, 2, 4, 6);
        kept(x, 0, 1, 0, 1, 2);
        // 4 - 3 + 2 is 3
        Drafts.save(x, 0, 2, 4, 6, 8);
        kept(x, 0, 2, 1, 2, 3);
        // to a base that is longer: 3 - 3 + 2 is 2
        Drafts.save(x, 0, 4, 6, 8);
        kept(x, 0, 3, 2, 3, 2);
    }

    @Sentence(in = "Differences", says = "a version that has it as its base is kept in full from then on;", broken = {
        "other.loseBase(gone); => ;", "base == gone) {\n                base = null; => base == gone) {\n"
            + "                base = gone.base;"})
    private static void fullWhenTheBaseIsForgotten() {
        DedupVault x = new DedupVault();
        Bounds.stairs(x, 3);
        for (int version = 0; version <= 3; version++) {
            x.save(0);
        }
        x.forget(0, 0);
        kept(x, 0, 1, -1, 0, 3);
        x.forget(0, 2);
        kept(x, 0, 3, -1, 0, 3);
        kept(x, 0, 1, -1, 0, 3);
        // the last one of a chain is a base of none
        x.forget(0, 3);
        kept(x, 0, 1, -1, 0, 3);
    }

    @Sentence(in = "Differences", says = "chains of others follow from that.", broken = {
        "if (base == gone) { => if (base == gone || base != null && base.base == gone) {",
        "in chainOf: if (isKept(file, 3) && version == 3) { return 3; }"})
    private static void chainsFollow() {
        DedupVault x = new DedupVault();
        Bounds.stairs(x, 3);
        for (int version = 0; version <= 3; version++) {
            x.save(0);
        }
        x.forget(0, 0);
        kept(x, 0, 2, 1, 1, 2);
        kept(x, 0, 3, 2, 2, 2);
        x.forget(0, 1);
        kept(x, 0, 2, -1, 0, 3);
        kept(x, 0, 3, 2, 1, 2);
    }

    // ---- garbage

    @Sentence(in = "Garbage", says = "A stored chunk is garbage if no kept version has it.", broken = {
        "int neededBytes() { ... uses() > 0 => uses() > 1", "int neededBytes() { ... uses() > 0 => uses() >= 0",
        "void releaseEntries() { => void releaseEntries() { for (int i = 0; i < entries.size(); i++) { "
            + "entries.get(i).uses = 1; }"})
    private static void garbageIfNoVersionHasIt() {
        DedupVault x = new DedupVault();
        Drafts.save(x, 0, 2, 2, 2);
        Drafts.save(x, 1, 2);
        due.same("two versions have it", x.garbage(), 0);
        x.forget(0, 0);
        due.same("one version has it once", x.garbage(), 0);
        x.forget(1, 0);
        due.same("none has it", x.garbage(), 8);
    }

    @Sentence(in = "Garbage", says = "It can be found as any other chunk, and is not garbage then.", broken = {
        "if (chunk == null) {\n                chunk = storeNew => if (chunk == null || chunk.uses() == 0) {\n"
            + "                chunk = storeNew",
        "chunk = chunkIn(boxes, piece); => chunk = chunkIn(boxes, piece); if (chunk != null && chunk.uses() == 0) "
            + "{ chunk.addUses(-1); }"})
    private static void garbageIsFound() {
        DedupVault x = new DedupVault();
        Drafts.save(x, 0, 1);
        x.forget(0, 0);
        Drafts.save(x, 1, 1);
        due.same("found in the cache", x.cacheHits(), 1);
        due.same("it is not garbage", x.garbage(), 0);
        due.same("it has its number", x.chunkAt(1, 0, 0), 0);
        x.forget(1, 0);
        Drafts.save(x, 2, 3, 5, 7, 9, 11, 13, 15);
        Drafts.save(x, 2, 17, 19, 21, 23, 25);
        int reads = x.indexReads();
        Drafts.save(x, 3, 1);
        due.same("found by the index", x.indexReads(), reads + 1);
        due.same("it is not garbage", x.garbage(), 0);
        due.same("it has its number", x.chunkAt(3, 0, 0), 0);
    }

    @Sentence(in = "Garbage", says = "the containers that are closed when the call begins", broken = {
        "int closed = boxes.size() - 1; => int closed = boxes.size();",
        "seen < closed && place < boxes.size(); => seen < 1000 && place < boxes.size() - 1;",
        "int closed = boxes.size() - 1; => int closed = boxes.size() - 2;"})
    private static void closedWhenTheCallBegins() {
        DedupVault x = new DedupVault();
        Drafts.save(x, 0, 1, 3, 5, 7);
        x.forget(0, 0);
        due.same("a full one that is open", x.collect(), 0);
        Drafts.save(x, 1, 9, 11, 13, 15);
        Drafts.save(x, 1, 9);
        x.forget(1, 0);
        due.same("the last one that is closed", x.collect(), 128);
        due.same("the open one stays", x.containers(), 1);
        // needed: one chunk of container 0, which closes container 1 on its way
        DedupVault y = new DedupVault();
        Drafts.save(y, 0, 1, 3, 5, 7);
        Drafts.save(y, 1, 9, 11, 13, 15);
        Drafts.save(y, 2, 1);
        y.forget(0, 0);
        y.forget(1, 0);
        due.same("container 1 is closed by the call", y.collect(), 96);
        due.same("openContainer", y.openContainer(), 2);
        due.same("its garbage stays", y.garbage(), 128);
        due.same("until the next call", y.collect(), 128);
    }

    @Sentence(in = "Garbage", says = "are gone through by rising numbers;", broken = "int collectGarbage() { => "
        + "int collectGarbage() { if (boxes.size() > 2) { Container first = boxes.remove(0); boxes.add(1, first); }")
    private static void byRisingNumbers() {
        DedupVault x = new DedupVault();
        Drafts.save(x, 0, 1, 3, 5, 7);
        Drafts.save(x, 1, 9, 11, 13, 15);
        Drafts.save(x, 2, 17, 19, 2, 4);
        Drafts.save(x, 3, 1, 9);
        x.forget(0, 0);
        x.forget(1, 0);
        // container 2 has room for one of the two
        due.same("collect", x.collect(), 192);
        due.same("the chunk of container 0", x.containerOf(0), 2);
        due.same("the chunk of container 1", x.containerOf(4), 3);
    }

    /** Container 0 has a chunk of 32 bytes, one of as many as told, and others that are garbage; it is closed. */
    private static DedupVault closed(int needed, int... others) {
        DedupVault x = new DedupVault();
        Drafts.save(x, 0, 1);
        save(x, 1, 3, needed);
        for (int i = 0; i < others.length; i++) {
            save(x, 2, 5 + 2 * i, others[i]);
        }
        Drafts.save(x, 3, 31);
        for (int i = 0; i < others.length; i++) {
            x.forget(2, i);
        }
        due.same("container 0 is closed", x.openContainer(), 1);
        return x;
    }

    @Sentence(in = "Garbage", says = "if twice the bytes of the chunks in one that are not garbage, together, are fewer", broken = {
        "2 * needed < box.filled() => 2 * needed <= box.filled()", "2 * needed < box.filled() => 2 * needed + 1 < box.filled()",
        "2 * needed < box.filled() => needed < box.filled() / 2", "2 * needed < box.filled() => 3 * needed < box.filled()"})
    private static void halfIsNotFewer() {
        due.same("64 of 128", closed(32, 32, 32).collect(), 0);
        due.same("63 of 127", closed(31, 32, 32).collect(), 64);
        due.same("64 of 127", closed(32, 31, 32).collect(), 0);
        due.same("63 of 126", closed(31, 31, 32).collect(), 0);
        due.same("62 of 125", closed(30, 31, 32).collect(), 63);
        due.same("33 of 97", closed(1, 32, 32).collect(), 64);
    }

    @Sentence(in = "Garbage", says = "than the bytes of all its chunks,", broken = {
        "2 * needed < box.filled() => 2 * needed < CONTAINER_ROOM", "2 * needed < box.filled() => 2 * needed < 100"})
    private static void ofAllItsChunks() {
        due.same("60 of 120, though 128 would be more", closed(28, 28, 32).collect(), 0);
        due.same("59 of 119, which is fewer than 64 would need", closed(27, 28, 32).collect(), 60);
        due.same("48 of 97, just fewer than half", closed(16, 17, 32).collect(), 49);
        due.same("49 of 97, just more", closed(17, 16, 32).collect(), 0);
    }

    @Sentence(in = "Garbage", says = "that are not garbage, together,", broken = {
        "2 * needed < box.filled() => needed <= box.filled()", "2 * needed < box.filled() => needed > 0 && 2 * needed < "
            + "box.filled()"})
    private static void allOrNoneIsGarbage() {
        DedupVault x = new DedupVault();
        Drafts.save(x, 0, 1, 3, 5, 7);
        Drafts.save(x, 1, 9);
        due.same("where none is garbage", x.collect(), 0);
        due.same("containers", x.containers(), 2);
        due.same("its chunks stay where they are", x.containerOf(0), 0);
        x.forget(0, 0);
        due.same("where all is garbage", x.collect(), 128);
        due.same("containers", x.containers(), 1);
        due.same("chunks", x.chunks(), 1);
    }

    @Sentence(in = "Garbage", says = "(they keep their numbers)", broken = {
        "class Chunk { ... private final int number; => private int number; ## void moveTo(Container container) { => "
            + "void moveTo(Container container) { if (home != container) { number += 100; }"})
    private static void collectedChunksKeepTheirNumbers() {
        DedupVault x = closed(1, 32, 32);
        x.collect();
        due.same("chunk 0", x.containerOf(0), 1);
        due.same("chunk 1", x.containerOf(1), 1);
        due.same("chunkAt", x.chunkAt(0, 0, 0), 0);
        due.same("chunkAt", x.chunkAt(1, 0, 0), 1);
        due.same("byteAt", x.byteAt(1, 0, 0), 3);
        Drafts.save(x, 0, 1);
        due.same("it is found by its number", x.chunkAt(0, 1, 0), 0);
    }

    @Sentence(in = "Garbage", says = "all its garbage is gone, and so is the container;", broken = {
        "ArrayList<Chunk> needed = box.needed(); => ArrayList<Chunk> needed = box.content;",
        "boxes.remove(place); => place++;"})
    private static void garbageAndContainerAreGone() {
        DedupVault x = closed(1, 32, 32);
        due.same("collect", x.collect(), 64);
        due.same("the first garbage", x.isStored(2), false);
        due.same("the last garbage", x.isStored(3), false);
        due.same("chunks", x.chunks(), 3);
        due.same("storedBytes", x.storedBytes(), 65);
        due.same("containers", x.containers(), 1);
        due.same("garbage", x.garbage(), 0);
    }

    @Sentence(in = "Garbage", says = "it leaves the cache.", broken = {"private void empty( ... leaveCache(box); => ;",
        "private void empty( ... leaveCache(box); => recent.clear();",
        "private void empty( ... leaveCache(box); => if (recent.get(0) != box) { leaveCache(box); }"})
    private static void collectedContainersLeaveTheCache() {
        // in the last place, in the one between, in the first one
        int[][] used = {{9, 17}, {1, 17}, {17, 1}};
        String[] want = {"2 1 -1", "2 1 -1", "2 1 -1"};
        for (int i = 0; i < used.length; i++) {
            DedupVault x = new DedupVault();
            Drafts.save(x, 0, 1, 3, 5, 7);
            Drafts.save(x, 1, 9, 11, 13, 15);
            Drafts.save(x, 2, 17);
            Drafts.save(x, 0, used[i][0], used[i][1]);
            int place = 2 - i;
            due.same("its place", x.cached(place), 0);
            x.forget(0, 0);
            x.forget(0, 1);
            due.same("collect", x.collect(), 128);
            due.sameText("the cache", Drafts.cache(x), want[i]);
        }
        DedupVault y = threeCached();
        Drafts.save(y, 1, 25);
        due.same("container 0 is not cached", y.cached(2), 1);
        y.forget(0, 0);
        due.same("collect", y.collect(), 128);
        due.sameText("one that is not cached", Drafts.cache(y), "3 2 1");
    }

    @Sentence(in = "Garbage", says = "Storing a chunk so uses no container.", broken = {
        "private void empty( ... .put(needed.get(i)); => .put(needed.get(i)); use(open);",
        "private void empty( ... .put(needed.get(i)); => .put(needed.get(i)); hits++;",
        "private void empty( ... .put(needed.get(i)); => .put(needed.get(i)); reads++;"})
    private static void collectUsesNoContainer() {
        DedupVault x = new DedupVault();
        Drafts.save(x, 0, 1, 3, 5, 7);
        Drafts.save(x, 1, 9, 11, 13, 15);
        Drafts.save(x, 2, 1, 9);
        int lookups = x.cacheHits() * 100 + x.indexReads();
        x.forget(0, 0);
        due.sameText("the cache", Drafts.cache(x), "1 0 -1");
        due.same("chunk 0 goes into a new container", x.collect(), 96);
        due.same("its container", x.containerOf(0), 2);
        due.sameText("the new one is not cached", Drafts.cache(x), "1 -1 -1");
        due.same("nothing is looked up", x.cacheHits() * 100 + x.indexReads(), lookups);
    }
}
