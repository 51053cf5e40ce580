import java.util.ArrayList;
import java.util.Arrays;
import java.util.LinkedHashSet;
import java.util.LinkedList;
import java.util.List;
import java.util.Map;
import java.util.TreeMap;

/**
 * A second reading of the document, written apart from the class under test and with other means: bytes are lists,
 * chunks lie in a map by their numbers, containers are lists of chunk numbers, and all that can be told from the kept
 * versions is told anew each time.
 */
final class Model {
    private static final class Kept {
        List<Integer> bytes;
        List<Integer> entries = new ArrayList<>();
        int base = -1;
    }

    final List<Integer> draft = new ArrayList<>();
    private final List<TreeMap<Integer, Kept>> files = new ArrayList<>();
    private final int[] saved = new int[6];
    private final Map<Integer, List<Integer>> stored = new TreeMap<>();
    private final TreeMap<Integer, List<Integer>> boxes = new TreeMap<>();
    private final LinkedList<Integer> cache = new LinkedList<>();
    private int everStored = 0;
    private int hits = 0;
    private int reads = 0;

    Model() {
        for (int i = 0; i < 6; i++) {
            files.add(new TreeMap<>());
        }
        boxes.put(0, new ArrayList<>());
    }

    int append(int start, int step, int many) {
        argument(start >= 0 && start <= 255 && step >= 0 && step <= 255 && many >= 1 && many <= 64);
        state(draft.size() + many <= 240);
        for (int i = 0; i < many; i++) {
            draft.add((start + i * step) & 255);
        }
        return draft.size();
    }

    int appendCopy(int file, int version, int from, int many) {
        List<Integer> bytes = kept(file, version).bytes;
        index(from >= 0 && many >= 0 && (long) from + many <= bytes.size());
        state(draft.size() + many <= 240);
        draft.addAll(new ArrayList<>(bytes.subList(from, from + many)));
        return draft.size();
    }

    int insert(int place, int value) {
        index(place >= 0 && place <= draft.size());
        argument(value >= 0 && value <= 255);
        state(draft.size() < 240);
        draft.add(place, value);
        return draft.size();
    }

    int cut(int place, int many) {
        index(place >= 0 && many >= 0 && (long) place + many <= draft.size());
        draft.subList(place, place + many).clear();
        return draft.size();
    }

    int clearDraft() {
        int before = draft.size();
        draft.clear();
        return before;
    }

    int draftAt(int place) {
        index(place >= 0 && place < draft.size());
        return draft.get(place);
    }

    int save(int file) {
        index(file >= 0 && file < 6);
        state(versions() < 20);
        Kept made = new Kept();
        made.bytes = new ArrayList<>(draft);
        for (List<Integer> chunk : chunked(draft)) {
            made.entries.add(look(chunk));
        }
        TreeMap<Integer, Kept> versions = files.get(file);
        if (!versions.isEmpty()) {
            int before = versions.lastKey();
            boolean tooLong = chainOf(file, before) + 1 == 4;
            if (!tooLong && difference(made, versions.get(before)) < made.entries.size()) {
                made.base = before;
            }
        }
        int number = saved[file]++;
        versions.put(number, made);
        return number;
    }

    private static List<List<Integer>> chunked(List<Integer> bytes) {
        List<List<Integer>> all = new ArrayList<>();
        List<Integer> now = new ArrayList<>();
        for (int b : bytes) {
            now.add(b);
            int n = now.size();
            boolean said = n >= 8 && now.subList(n - 8, n).stream().mapToInt(Integer::intValue).sum() % 16 == 0;
            if (said || n == 32) {
                all.add(now);
                now = new ArrayList<>();
            }
        }
        if (!now.isEmpty()) {
            all.add(now);
        }
        return all;
    }

    private int numberOf(List<Integer> chunk) {
        for (Map.Entry<Integer, List<Integer>> e : stored.entrySet()) {
            if (e.getValue().equals(chunk)) {
                return e.getKey();
            }
        }
        return -1;
    }

    private int look(List<Integer> chunk) {
        int number = numberOf(chunk);
        if (number >= 0 && cache.contains(containerOf(number))) {
            hits++;
        } else {
            reads++;
        }
        if (number < 0) {
            number = everStored++;
            stored.put(number, chunk);
            shelve(number);
        }
        Integer box = containerOf(number);
        cache.remove(box);
        cache.addFirst(box);
        while (cache.size() > 3) {
            cache.removeLast();
        }
        return number;
    }

    private void shelve(int number) {
        int open = boxes.lastKey();
        if (bytesOf(boxes.get(open)) + stored.get(number).size() > 128) {
            open++;
            boxes.put(open, new ArrayList<>());
        }
        boxes.get(open).add(number);
    }

    private int bytesOf(List<Integer> numbers) {
        int bytes = 0;
        for (int number : numbers) {
            bytes += stored.get(number).size();
        }
        return bytes;
    }

    int wouldStore() {
        int bytes = 0;
        for (List<Integer> chunk : new LinkedHashSet<>(chunked(draft))) {
            bytes += numberOf(chunk) < 0 ? chunk.size() : 0;
        }
        return bytes;
    }

    int forget(int file, int version) {
        kept(file, version);
        files.get(file).remove(version);
        for (Kept other : files.get(file).values()) {
            if (other.base == version) {
                other.base = -1;
            }
        }
        return versions();
    }

    int collect() {
        int before = storedBytes();
        List<Integer> closed = new ArrayList<>(boxes.headMap(boxes.lastKey()).keySet());
        for (Integer box : closed) {
            List<Integer> all = boxes.get(box);
            List<Integer> live = new ArrayList<>(all);
            live.removeIf(number -> references(number) == 0);
            if (2 * bytesOf(live) < bytesOf(all)) {
                boxes.remove(box);
                cache.remove(box);
                for (int number : all) {
                    if (live.contains(number)) {
                        shelve(number);
                    } else {
                        stored.remove(number);
                    }
                }
            }
        }
        return before - storedBytes();
    }

    int versions() {
        return files.stream().mapToInt(TreeMap::size).sum();
    }

    boolean isKept(int file, int version) {
        index(file >= 0 && file < 6);
        return files.get(file).containsKey(version);
    }

    int latest(int file) {
        index(file >= 0 && file < 6);
        return files.get(file).isEmpty() ? -1 : files.get(file).lastKey();
    }

    int length(int file, int version) {
        return kept(file, version).bytes.size();
    }

    int byteAt(int file, int version, int place) {
        List<Integer> all = new ArrayList<>();
        for (int number : kept(file, version).entries) {
            all.addAll(stored.get(number));
        }
        index(place >= 0 && place < all.size());
        return all.get(place);
    }

    int byteByCopy(int file, int version, int place) {
        List<Integer> bytes = kept(file, version).bytes;
        index(place >= 0 && place < bytes.size());
        return bytes.get(place);
    }

    int chunksOf(int file, int version) {
        return kept(file, version).entries.size();
    }

    int chunkAt(int file, int version, int place) {
        List<Integer> entries = kept(file, version).entries;
        index(place >= 0 && place < entries.size());
        return entries.get(place);
    }

    int baseOf(int file, int version) {
        return kept(file, version).base;
    }

    int chainOf(int file, int version) {
        int base = kept(file, version).base;
        return base < 0 ? 0 : 1 + chainOf(file, base);
    }

    int costOf(int file, int version) {
        Kept v = kept(file, version);
        return v.base < 0 ? v.entries.size() : difference(v, files.get(file).get(v.base));
    }

    private static int difference(Kept made, Kept base) {
        LinkedList<Integer> mine = new LinkedList<>(made.entries);
        LinkedList<Integer> its = new LinkedList<>(base.entries);
        while (!mine.isEmpty() && !its.isEmpty() && mine.getFirst().equals(its.getFirst())) {
            mine.removeFirst();
            its.removeFirst();
        }
        while (!mine.isEmpty() && !its.isEmpty() && mine.getLast().equals(its.getLast())) {
            mine.removeLast();
            its.removeLast();
        }
        return mine.size() + 2;
    }

    boolean isStored(int chunk) {
        return stored.containsKey(chunk);
    }

    int chunks() {
        return stored.size();
    }

    int chunkLength(int chunk) {
        index(isStored(chunk));
        return stored.get(chunk).size();
    }

    int fingerprint(int chunk) {
        index(isStored(chunk));
        // a is 1 and all bytes; b is n times 1, and each byte as often as there are bytes from it on
        List<Integer> bytes = stored.get(chunk);
        int n = bytes.size();
        int a = 1;
        int b = n;
        for (int i = 0; i < n; i++) {
            a += bytes.get(i);
            b += (n - i) * bytes.get(i);
        }
        return 256 * (b % 251) + a % 251;
    }

    int references(int chunk) {
        index(isStored(chunk));
        int times = 0;
        for (TreeMap<Integer, Kept> versions : files) {
            for (Kept v : versions.values()) {
                for (int number : v.entries) {
                    times += number == chunk ? 1 : 0;
                }
            }
        }
        return times;
    }

    Integer containerOf(int chunk) {
        index(isStored(chunk));
        for (Map.Entry<Integer, List<Integer>> e : boxes.entrySet()) {
            if (e.getValue().contains(chunk)) {
                return e.getKey();
            }
        }
        throw new AssertionError("a stored chunk lies nowhere");
    }

    int containers() {
        return boxes.size();
    }

    int openContainer() {
        return boxes.lastKey();
    }

    int cached(int place) {
        index(place >= 0 && place <= 2);
        return place < cache.size() ? cache.get(place) : -1;
    }

    int cacheHits() {
        return hits;
    }

    int indexReads() {
        return reads;
    }

    int storedBytes() {
        return bytesOf(new ArrayList<>(stored.keySet()));
    }

    int savedBytes() {
        int bytes = 0;
        for (TreeMap<Integer, Kept> versions : files) {
            for (Kept v : versions.values()) {
                bytes += v.bytes.size();
            }
        }
        return bytes;
    }

    int garbage() {
        int bytes = 0;
        for (int number : stored.keySet()) {
            bytes += references(number) == 0 ? stored.get(number).size() : 0;
        }
        return bytes;
    }

    double ratio() {
        return storedBytes() == 0 ? 0.0 : (double) savedBytes() / storedBytes();
    }

    private Kept kept(int file, int version) {
        index(isKept(file, version));
        return files.get(file).get(version);
    }

    /** How many kept versions of a file there are, and the one at a place among them: for a walk that wants one. */
    int keptVersion(int file, int place) {
        Object[] numbers = files.get(file).keySet().toArray();
        return numbers.length == 0 ? -1 : (Integer) numbers[Math.floorMod(place, numbers.length)];
    }

    int highestChunk() {
        return everStored;
    }

    String order() {
        return Arrays.toString(boxes.entrySet().toArray());
    }

    private static void index(boolean right) {
        if (!right) {
            throw new IndexOutOfBoundsException();
        }
    }

    private static void argument(boolean right) {
        if (!right) {
            throw new IllegalArgumentException();
        }
    }

    private static void state(boolean right) {
        if (!right) {
            throw new IllegalStateException();
        }
    }
}
