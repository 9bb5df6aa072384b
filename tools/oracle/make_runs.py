"""Writes src/test/data/runs.txt: runs, each with the digest of what oracle.py says is due.

make_runs.py < FILE OF RUNS > src/test/data/runs.txt
"""
import sys
import threading

import oracle


def digest(text):
    """64 bits of FNV-1a, as RunsTest has it."""
    h = 0xCBF29CE484222325
    for c in text:
        h = ((h ^ ord(c)) * 0x100000001B3) & 0xFFFFFFFFFFFFFFFF
    return "%016x" % h


def main():
    for line in sys.stdin:
        words = line.split()
        text = b"" if words[0] == "-" else bytes.fromhex(words[0])
        lines = oracle.case(text, [int(w) for w in words[1:]])
        print(digest("".join(part + "\n" for part in lines)), line.strip())


threading.stack_size(1 << 29)
thread = threading.Thread(target=main)
thread.start()
thread.join()
