import java.util.ArrayList;

/** A backup store with deduplication. */
public final class DedupVault {
    /** No version, container or chunk. */
    public static final int NONE = -1;

    private static final int FILES = 6;
    private static final int DRAFT_ROOM = 240;
    private static final int MOST_KEPT = 20;
    private static final int MOST_APPENDED = 64;
    private static final int BYTE_VALUES = 256;
    private static final int WINDOW = 8;
    private static final int SUM_STEP = 16;
    private static final int LONGEST_CHUNK = 32;
    private static final int MARK_MODULUS = 251;
    private static final int MARK_STEP = 256;
    private static final int CONTAINER_ROOM = 128;
    private static final int CACHE_PLACES = 3;
    private static final int LONGEST_CHAIN = 3;
    private static final int DIFFERENCE_EXTRA = 2;
    // After so many saves an object is past its 512th call, and what it keeps must not grow for ever.
    private static final int MOST_SAVES = 512;

    private final Row draft;
    private final ArrayList<Version> kept;
    private final int[] nextNumbers;
    private final Shelf shelf;
    private int saves;

    /** Nothing is saved; the draft is empty. */
    public DedupVault() {
        draft = new Row(DRAFT_ROOM);
        kept = new ArrayList<Version>();
        nextNumbers = new int[FILES];
        shelf = new Shelf();
        saves = 0;
    }

    // ---- the draft

    public int append(int start, int step, int many) throws IllegalArgumentException, IllegalStateException {
        if (noByteValue(start) || noByteValue(step) || many < 1 || many > MOST_APPENDED) {
            throw new IllegalArgumentException();
        }
        if (many > DRAFT_ROOM - draft.size()) {
            throw new IllegalStateException();
        }
        int value = start;
        for (int i = 0; i < many; i++) {
            draft.add(value);
            value = (value + step) % BYTE_VALUES;
        }
        return draft.size();
    }

    public int appendCopy(int file, int version, int from, int many)
            throws IndexOutOfBoundsException, IllegalStateException {
        Row copy = demandVersion(file, version).copy();
        if (noSpan(from, many, copy.size())) {
            throw new IndexOutOfBoundsException();
        }
        if (many > DRAFT_ROOM - draft.size()) {
            throw new IllegalStateException();
        }
        draft.addPart(copy, from, many);
        return draft.size();
    }

    public int insert(int place, int value)
            throws IndexOutOfBoundsException, IllegalArgumentException, IllegalStateException {
        if (place < 0 || place > draft.size()) {
            throw new IndexOutOfBoundsException();
        }
        if (noByteValue(value)) {
            throw new IllegalArgumentException();
        }
        if (draft.size() >= DRAFT_ROOM) {
            throw new IllegalStateException();
        }
        draft.putIn(place, value);
        return draft.size();
    }

    public int cut(int place, int many) throws IndexOutOfBoundsException {
        if (noSpan(place, many, draft.size())) {
            throw new IndexOutOfBoundsException();
        }
        draft.takeOut(place, many);
        return draft.size();
    }

    public int clearDraft() {
        int before = draft.size();
        draft.takeOut(0, before);
        return before;
    }

    public int draftLength() {
        return draft.size();
    }

    public int draftAt(int place) throws IndexOutOfBoundsException {
        if (noPlace(place, draft.size())) {
            throw new IndexOutOfBoundsException();
        }
        return draft.get(place);
    }

    // ---- saving, forgetting, collecting

    public int save(int file) throws IndexOutOfBoundsException, IllegalStateException {
        if (noPlace(file, nextNumbers.length)) {
            throw new IndexOutOfBoundsException();
        }
        if (kept.size() >= MOST_KEPT || saves >= MOST_SAVES) {
            throw new IllegalStateException();
        }
        int number = nextNumbers[file];
        Version made = new Version(file, number, draft);
        ArrayList<Piece> pieces = piecesOf(draft);
        for (int i = 0; i < pieces.size(); i++) {
            made.addEntry(shelf.chunkFor(pieces.get(i)));
        }
        made.chooseBase(latestKept(file));
        kept.add(made);
        nextNumbers[file] = number + 1;
        saves++;
        return number;
    }

    public int wouldStore() {
        ArrayList<Piece> pieces = piecesOf(draft);
        int bytes = 0;
        for (int i = 0; i < pieces.size(); i++) {
            Piece piece = pieces.get(i);
            if (!cameBefore(pieces, i) && !shelf.has(piece)) {
                bytes += piece.size();
            }
        }
        return bytes;
    }

    public int forget(int file, int version) throws IndexOutOfBoundsException {
        Version gone = demandVersion(file, version);
        for (int i = kept.size() - 1; i >= 0; i--) {
            Version other = kept.get(i);
            if (other == gone) {
                kept.remove(i);
            } else {
                other.loseBase(gone);
            }
        }
        gone.releaseEntries();
        return kept.size();
    }

    public int collect() {
        return shelf.collectGarbage();
    }

    // ---- versions

    public int versions() {
        return kept.size();
    }

    public boolean isKept(int file, int version) throws IndexOutOfBoundsException {
        if (noPlace(file, FILES)) {
            throw new IndexOutOfBoundsException();
        }
        return findVersion(file, version) != null;
    }

    public int latest(int file) throws IndexOutOfBoundsException {
        if (noPlace(file, FILES)) {
            throw new IndexOutOfBoundsException();
        }
        return numberOf(latestKept(file));
    }

    public int length(int file, int version) throws IndexOutOfBoundsException {
        return demandVersion(file, version).copy().size();
    }

    public int byteAt(int file, int version, int place) throws IndexOutOfBoundsException {
        Version found = demandVersion(file, version);
        if (noPlace(place, found.copy().size())) {
            throw new IndexOutOfBoundsException();
        }
        return found.restored(place);
    }

    public int byteByCopy(int file, int version, int place) throws IndexOutOfBoundsException {
        Row copy = demandVersion(file, version).copy();
        if (noPlace(place, copy.size())) {
            throw new IndexOutOfBoundsException();
        }
        return copy.get(place);
    }

    public int chunksOf(int file, int version) throws IndexOutOfBoundsException {
        return demandVersion(file, version).entryCount();
    }

    public int chunkAt(int file, int version, int place) throws IndexOutOfBoundsException {
        Version found = demandVersion(file, version);
        if (noPlace(place, found.entryCount())) {
            throw new IndexOutOfBoundsException();
        }
        return found.entryNumber(place);
    }

    public int baseOf(int file, int version) throws IndexOutOfBoundsException {
        return numberOf(demandVersion(file, version).base());
    }

    public int chainOf(int file, int version) throws IndexOutOfBoundsException {
        return demandVersion(file, version).chain();
    }

    public int costOf(int file, int version) throws IndexOutOfBoundsException {
        return demandVersion(file, version).cost();
    }

    // ---- chunks, containers, cache

    public boolean isStored(int chunk) {
        return shelf.findChunk(chunk) != null;
    }

    public int chunks() {
        return shelf.chunkCount();
    }

    public int chunkLength(int chunk) throws IndexOutOfBoundsException {
        return demandChunk(chunk).bytes().size();
    }

    public int fingerprint(int chunk) throws IndexOutOfBoundsException {
        return demandChunk(chunk).bytes().mark();
    }

    public int references(int chunk) throws IndexOutOfBoundsException {
        return demandChunk(chunk).uses();
    }

    public int containerOf(int chunk) throws IndexOutOfBoundsException {
        return demandChunk(chunk).home().number();
    }

    public int containers() {
        return shelf.containerCount();
    }

    public int openContainer() {
        return shelf.openNumber();
    }

    public int cached(int place) throws IndexOutOfBoundsException {
        if (noPlace(place, CACHE_PLACES)) {
            throw new IndexOutOfBoundsException();
        }
        return shelf.recentNumber(place);
    }

    public int cacheHits() {
        return shelf.hits();
    }

    public int indexReads() {
        return shelf.reads();
    }

    // ---- bytes

    public int storedBytes() {
        return shelf.filledBytes();
    }

    public int savedBytes() {
        int bytes = 0;
        for (int i = 0; i < kept.size(); i++) {
            bytes += kept.get(i).copy().size();
        }
        return bytes;
    }

    public int garbage() {
        return shelf.garbageBytes();
    }

    public double ratio() {
        int stored = shelf.filledBytes();
        if (stored == 0) {
            return 0.0;
        }
        return (double) savedBytes() / (double) stored;
    }

    // ---- what the calls share

    private static boolean noByteValue(int value) {
        return value < 0 || value >= BYTE_VALUES;
    }

    private static boolean noPlace(int place, int size) {
        return place < 0 || place >= size;
    }

    // The sum of from and many could wrap around; the difference of two that are not negative can't.
    private static boolean noSpan(int from, int many, int size) {
        return from < 0 || many < 0 || many > size - from;
    }

    private static int numberOf(Version version) {
        return version == null ? NONE : version.number();
    }

    private Version findVersion(int file, int number) {
        for (int i = 0; i < kept.size(); i++) {
            Version version = kept.get(i);
            if (version.file() == file && version.number() == number) {
                return version;
            }
        }
        return null;
    }

    private Version demandVersion(int file, int number) {
        Version found = findVersion(file, number);
        if (found == null) {
            throw new IndexOutOfBoundsException();
        }
        return found;
    }

    private Chunk demandChunk(int number) {
        Chunk found = shelf.findChunk(number);
        if (found == null) {
            throw new IndexOutOfBoundsException();
        }
        return found;
    }

    // Versions are added as they are saved, so the last one of a file is its latest.
    private Version latestKept(int file) {
        for (int i = kept.size() - 1; i >= 0; i--) {
            Version version = kept.get(i);
            if (version.file() == file) {
                return version;
            }
        }
        return null;
    }

    private static ArrayList<Piece> piecesOf(Row bytes) {
        ArrayList<Piece> pieces = new ArrayList<Piece>();
        int from = 0;
        for (int end = 1; end <= bytes.size(); end++) {
            if (endsPiece(bytes, from, end)) {
                pieces.add(new Piece(bytes, from, end - from));
                from = end;
            }
        }
        return pieces;
    }

    private static boolean endsPiece(Row bytes, int from, int end) {
        int size = end - from;
        if (end == bytes.size() || size == LONGEST_CHUNK) {
            return true;
        }
        return size >= WINDOW && windowSum(bytes, end) % SUM_STEP == 0;
    }

    private static int windowSum(Row bytes, int end) {
        int sum = 0;
        for (int i = end - WINDOW; i < end; i++) {
            sum += bytes.get(i);
        }
        return sum;
    }

    private static boolean cameBefore(ArrayList<Piece> pieces, int place) {
        if (place >= pieces.size()) {
            return false;
        }
        for (int i = 0; i < place; i++) {
            if (pieces.get(i).sameAs(pieces.get(place))) {
                return true;
            }
        }
        return false;
    }

    /** Numbers in a row of fixed room; it looks at every place before it uses it. */
    private static final class Row {
        private final int[] cells;
        private int size;

        Row(int room) {
            cells = new int[room < 0 ? 0 : room];
            size = 0;
        }

        int size() {
            return size;
        }

        int get(int place) {
            if (place < 0 || place >= size || place >= cells.length) {
                return 0;
            }
            return cells[place];
        }

        void add(int value) {
            putIn(size, value);
        }

        void addPart(Row other, int from, int many) {
            for (int i = 0; i < many; i++) {
                add(other.get(from + i));
            }
        }

        void putIn(int place, int value) {
            if (place < 0 || place > size || size >= cells.length) {
                return;
            }
            for (int i = size; i > place; i--) {
                cells[i] = cells[i - 1];
            }
            cells[place] = value;
            size++;
        }

        void takeOut(int place, int many) {
            if (noSpan(place, many, size) || size > cells.length) {
                return;
            }
            for (int i = place; i < size - many; i++) {
                cells[i] = cells[i + many];
            }
            size -= many;
        }
    }

    /** Bytes of a row that make one chunk; it is looked up before a chunk is made of it. */
    private static final class Piece {
        private final Row source;
        private final int from;
        private final int size;
        private final int mark;

        Piece(Row source, int from, int size) {
            this.source = source;
            this.from = from;
            this.size = size;
            this.mark = markOf(source, from, size);
        }

        private static int markOf(Row source, int from, int size) {
            int a = 1;
            int b = 0;
            for (int i = 0; i < size; i++) {
                a = (a + source.get(from + i)) % MARK_MODULUS;
                b = (b + a) % MARK_MODULUS;
            }
            return MARK_STEP * b + a;
        }

        int size() {
            return size;
        }

        int mark() {
            return mark;
        }

        int get(int place) {
            return source.get(from + place);
        }

        // A chunk outlives the draft's present bytes, so it needs bytes of its own.
        Piece detached() {
            Row own = new Row(size);
            own.addPart(source, from, size);
            return new Piece(own, 0, size);
        }

        // Unlike bytes can have one mark: it only spares most comparisons of the bytes.
        boolean sameAs(Piece other) {
            if (mark != other.mark || size != other.size) {
                return false;
            }
            for (int i = 0; i < size; i++) {
                if (source.get(from + i) != other.source.get(other.from + i)) {
                    return false;
                }
            }
            return true;
        }
    }

    /** A stored chunk: its bytes, the container in which it lies, how often kept versions have it. */
    private static final class Chunk {
        private final int number;
        private final Piece bytes;
        private Container home;
        private int uses;

        Chunk(int number, Piece bytes, Container home) {
            this.number = number;
            this.bytes = bytes;
            this.home = home;
            this.uses = 0;
        }

        int number() {
            return number;
        }

        Piece bytes() {
            return bytes;
        }

        Container home() {
            return home;
        }

        void moveTo(Container container) {
            home = container;
        }

        int uses() {
            return uses;
        }

        void addUses(int more) {
            uses += more;
        }
    }

    /** Chunks that lie behind one another in the room of one container. */
    private static final class Container {
        private final int number;
        private final ArrayList<Chunk> content;
        private int filled;

        Container(int number) {
            this.number = number;
            this.content = new ArrayList<Chunk>();
            this.filled = 0;
        }

        int number() {
            return number;
        }

        int filled() {
            return filled;
        }

        int count() {
            return content.size();
        }

        boolean fits(Piece bytes) {
            return bytes.size() <= CONTAINER_ROOM - filled;
        }

        void put(Chunk chunk) {
            content.add(chunk);
            filled += chunk.bytes().size();
            chunk.moveTo(this);
        }

        Chunk withBytes(Piece piece) {
            for (int i = 0; i < content.size(); i++) {
                if (content.get(i).bytes().sameAs(piece)) {
                    return content.get(i);
                }
            }
            return null;
        }

        Chunk withNumber(int wanted) {
            for (int i = 0; i < content.size(); i++) {
                if (content.get(i).number() == wanted) {
                    return content.get(i);
                }
            }
            return null;
        }

        ArrayList<Chunk> needed() {
            ArrayList<Chunk> needed = new ArrayList<Chunk>();
            for (int i = 0; i < content.size(); i++) {
                if (content.get(i).uses() > 0) {
                    needed.add(content.get(i));
                }
            }
            return needed;
        }

        int neededBytes() {
            int bytes = 0;
            for (int i = 0; i < content.size(); i++) {
                if (content.get(i).uses() > 0) {
                    bytes += content.get(i).bytes().size();
                }
            }
            return bytes;
        }
    }

    /** All containers by rising numbers, the open one last, and the cache of those used latest. */
    private static final class Shelf {
        private final ArrayList<Container> boxes;
        private final ArrayList<Container> recent;
        private Container open;
        private int nextChunk;
        private int hits;
        private int reads;

        Shelf() {
            boxes = new ArrayList<Container>();
            recent = new ArrayList<Container>();
            open = new Container(0);
            boxes.add(open);
            nextChunk = 0;
            hits = 0;
            reads = 0;
        }

        int hits() {
            return hits;
        }

        int reads() {
            return reads;
        }

        int containerCount() {
            return boxes.size();
        }

        int openNumber() {
            return open.number();
        }

        int recentNumber(int place) {
            return noPlace(place, recent.size()) ? NONE : recent.get(place).number();
        }

        boolean has(Piece piece) {
            return chunkIn(boxes, piece) != null;
        }

        Chunk findChunk(int number) {
            for (int i = 0; i < boxes.size(); i++) {
                Chunk chunk = boxes.get(i).withNumber(number);
                if (chunk != null) {
                    return chunk;
                }
            }
            return null;
        }

        int chunkCount() {
            int count = 0;
            for (int i = 0; i < boxes.size(); i++) {
                count += boxes.get(i).count();
            }
            return count;
        }

        int filledBytes() {
            int bytes = 0;
            for (int i = 0; i < boxes.size(); i++) {
                bytes += boxes.get(i).filled();
            }
            return bytes;
        }

        int garbageBytes() {
            int bytes = 0;
            for (int i = 0; i < boxes.size(); i++) {
                bytes += boxes.get(i).filled() - boxes.get(i).neededBytes();
            }
            return bytes;
        }

        Chunk chunkFor(Piece piece) {
            Chunk chunk = chunkIn(recent, piece);
            if (chunk != null) {
                hits++;
            } else {
                reads++;
                chunk = chunkIn(boxes, piece);
            }
            if (chunk == null) {
                chunk = storeNew(piece);
            }
            use(chunk.home());
            return chunk;
        }

        private static Chunk chunkIn(ArrayList<Container> places, Piece piece) {
            for (int i = 0; i < places.size(); i++) {
                Chunk chunk = places.get(i).withBytes(piece);
                if (chunk != null) {
                    return chunk;
                }
            }
            return null;
        }

        private Chunk storeNew(Piece piece) {
            Container box = openFor(piece);
            Chunk chunk = new Chunk(nextChunk, piece.detached(), box);
            box.put(chunk);
            nextChunk++;
            return chunk;
        }

        private Container openFor(Piece bytes) {
            if (!open.fits(bytes)) {
                open = new Container(open.number() + 1);
                boxes.add(open);
            }
            return open;
        }

        private void use(Container box) {
            leaveCache(box);
            recent.add(0, box);
            if (recent.size() > CACHE_PLACES) {
                recent.remove(recent.size() - 1);
            }
        }

        private void leaveCache(Container box) {
            for (int i = recent.size() - 1; i >= 0; i--) {
                if (recent.get(i) == box) {
                    recent.remove(i);
                }
            }
        }

        // Containers opened on the way come behind those that were closed at first, and are not counted.
        int collectGarbage() {
            int closed = boxes.size() - 1;
            int place = 0;
            int freed = 0;
            for (int seen = 0; seen < closed && place < boxes.size(); seen++) {
                Container box = boxes.get(place);
                int needed = box.neededBytes();
                if (2 * needed < box.filled()) {
                    boxes.remove(place);
                    empty(box);
                    freed += box.filled() - needed;
                } else {
                    place++;
                }
            }
            return freed;
        }

        private void empty(Container box) {
            ArrayList<Chunk> needed = box.needed();
            for (int i = 0; i < needed.size(); i++) {
                openFor(needed.get(i).bytes()).put(needed.get(i));
            }
            leaveCache(box);
        }
    }

    /** A kept version: its plain copy, its chunks, and the version to which it is a difference. */
    private static final class Version {
        private final int file;
        private final int number;
        private final Row copy;
        private final ArrayList<Chunk> entries;
        private Version base;

        Version(int file, int number, Row bytes) {
            this.file = file;
            this.number = number;
            this.copy = new Row(bytes.size());
            this.copy.addPart(bytes, 0, bytes.size());
            this.entries = new ArrayList<Chunk>();
            this.base = null;
        }

        int file() {
            return file;
        }

        int number() {
            return number;
        }

        Row copy() {
            return copy;
        }

        Version base() {
            return base;
        }

        int entryCount() {
            return entries.size();
        }

        int entryNumber(int place) {
            return noPlace(place, entries.size()) ? NONE : entries.get(place).number();
        }

        void addEntry(Chunk chunk) {
            entries.add(chunk);
            chunk.addUses(1);
        }

        void releaseEntries() {
            for (int i = 0; i < entries.size(); i++) {
                entries.get(i).addUses(-1);
            }
        }

        int restored(int place) {
            int left = place;
            for (int i = 0; i < entries.size(); i++) {
                Piece bytes = entries.get(i).bytes();
                if (left < bytes.size()) {
                    return bytes.get(left);
                }
                left -= bytes.size();
            }
            return 0;
        }

        int chain() {
            int links = 0;
            for (Version at = base; at != null && links < LONGEST_CHAIN; at = at.base) {
                links++;
            }
            return links;
        }

        int cost() {
            return base == null ? entries.size() : differenceTo(base);
        }

        void chooseBase(Version earlier) {
            if (earlier == null || earlier.chain() >= LONGEST_CHAIN) {
                return;
            }
            if (differenceTo(earlier) < entries.size()) {
                base = earlier;
            }
        }

        void loseBase(Version gone) {
            if (base == gone) {
                base = null;
            }
        }

        private int differenceTo(Version other) {
            int most = Math.min(entries.size(), other.entries.size());
            int front = 0;
            while (front < most && entryNumber(front) == other.entryNumber(front)) {
                front++;
            }
            int back = 0;
            while (back < most - front && fromEnd(back) == other.fromEnd(back)) {
                back++;
            }
            return entries.size() - front - back + DIFFERENCE_EXTRA;
        }

        private int fromEnd(int back) {
            return entryNumber(entries.size() - 1 - back);
        }
    }
}
