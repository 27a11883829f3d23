/** A sentence of the document that names a boundary case: where it stands, its words, and its own test. */
record Edge(String place, String words, Runnable test) {
    String told() {
        return place + ": " + words;
    }

    /** By its place and the beginning of its words. */
    boolean isNamed(String name) {
        return told().startsWith(name);
    }
}
