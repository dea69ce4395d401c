/** Makes documents in an engine with few words. */
final class Make {
    private Make() {
    }

    static int[] row(int... terms) {
        return terms;
    }

    /** Opens, writes and closes a document; its fields are told one behind the other. */
    static int document(QuarryIndex engine, int date, int kind, int[]... fields) {
        int number = engine.open(date, kind);
        for (int field = 0; field < fields.length; field++) {
            for (int term : fields[field]) {
                engine.write(field, term);
            }
        }
        engine.close();
        return number;
    }

    /** A document with these terms in field 0, date 0 and kind 0, alone in a segment flushed at once. */
    static int flushed(QuarryIndex engine, int... terms) {
        int number = document(engine, 0, 0, terms);
        engine.flush();
        return number;
    }
}
